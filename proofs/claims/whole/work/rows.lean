section
-- ===== PART A: goes FIRST, ahead of the names: the tables' words, and 'selects' of the private methods out of them =====
/-- a private method of a class that the tables say can be made, by its rows of tables_1 -/
def lw_okq (q : MethodName × Nat) : Prop := (q.1.cls ≠ "java/lang/invoke/MethodHandle" ∧ q.1.cls ≠ "java/lang/invoke/VarHandle") ∧ Cond.instantiable q.1.cls q.2 ∈ tables_1 ∧ Cond.privateMethod q.1 ∈ tables_1 ∧ Cond.instanceMethod q.1 ∈ tables_1
theorem lw_p0 : lw_okq (⟨"ShareStreams", "addLine", "(IIII)I"⟩, 8) := ⟨⟨by decide +kernel, by decide +kernel⟩, List.mem_of_getElem? (i := 16) (by decide +kernel), List.mem_of_getElem? (i := 151) (by decide +kernel), List.mem_of_getElem? (i := 152) (by decide +kernel)⟩
theorem lw_p1 : lw_okq (⟨"ShareStreams$History", "push", "(LShareStreams$Bench;)V"⟩, 3) := ⟨⟨by decide +kernel, by decide +kernel⟩, List.mem_of_getElem? (i := 48) (by decide +kernel), List.mem_of_getElem? (i := 156) (by decide +kernel), List.mem_of_getElem? (i := 157) (by decide +kernel)⟩
theorem lw_p2 : lw_okq (⟨"ShareStreams$History", "stateAt", "(I)LShareStreams$Bench;"⟩, 3) := ⟨⟨by decide +kernel, by decide +kernel⟩, List.mem_of_getElem? (i := 48) (by decide +kernel), List.mem_of_getElem? (i := 160) (by decide +kernel), List.mem_of_getElem? (i := 161) (by decide +kernel)⟩
theorem lw_p3 : lw_okq (⟨"ShareStreams$Bench", "copyFrom", "(LShareStreams$Bench;)V"⟩, 4) := ⟨⟨by decide +kernel, by decide +kernel⟩, List.mem_of_getElem? (i := 24) (by decide +kernel), List.mem_of_getElem? (i := 167) (by decide +kernel), List.mem_of_getElem? (i := 168) (by decide +kernel)⟩
theorem lw_p4 : lw_okq (⟨"ShareStreams$Bench", "addAll", "(LShareStreams$Bench;)V"⟩, 4) := ⟨⟨by decide +kernel, by decide +kernel⟩, List.mem_of_getElem? (i := 24) (by decide +kernel), List.mem_of_getElem? (i := 171) (by decide +kernel), List.mem_of_getElem? (i := 172) (by decide +kernel)⟩
theorem lw_p5 : lw_okq (⟨"ShareStreams$Bench", "kindOf", "(I)I"⟩, 4) := ⟨⟨by decide +kernel, by decide +kernel⟩, List.mem_of_getElem? (i := 24) (by decide +kernel), List.mem_of_getElem? (i := 175) (by decide +kernel), List.mem_of_getElem? (i := 176) (by decide +kernel)⟩
theorem lw_p6 : lw_okq (⟨"ShareStreams$Bench", "numberOf", "(II)I"⟩, 4) := ⟨⟨by decide +kernel, by decide +kernel⟩, List.mem_of_getElem? (i := 24) (by decide +kernel), List.mem_of_getElem? (i := 182) (by decide +kernel), List.mem_of_getElem? (i := 183) (by decide +kernel)⟩
theorem lw_p7 : lw_okq (⟨"ShareStreams$Bench", "add", "(IIII)V"⟩, 4) := ⟨⟨by decide +kernel, by decide +kernel⟩, List.mem_of_getElem? (i := 24) (by decide +kernel), List.mem_of_getElem? (i := 186) (by decide +kernel), List.mem_of_getElem? (i := 187) (by decide +kernel)⟩
theorem lw_p8 : lw_okq (⟨"ShareStreams$Bench", "setNumber", "(III)V"⟩, 4) := ⟨⟨by decide +kernel, by decide +kernel⟩, List.mem_of_getElem? (i := 24) (by decide +kernel), List.mem_of_getElem? (i := 193) (by decide +kernel), List.mem_of_getElem? (i := 194) (by decide +kernel)⟩
theorem lw_p9 : lw_okq (⟨"ShareStreams$Bench", "has", "(I)Z"⟩, 4) := ⟨⟨by decide +kernel, by decide +kernel⟩, List.mem_of_getElem? (i := 24) (by decide +kernel), List.mem_of_getElem? (i := 202) (by decide +kernel), List.mem_of_getElem? (i := 203) (by decide +kernel)⟩
theorem lw_p10 : lw_okq (⟨"ShareStreams$Bench", "setSource", "(III)V"⟩, 4) := ⟨⟨by decide +kernel, by decide +kernel⟩, List.mem_of_getElem? (i := 24) (by decide +kernel), List.mem_of_getElem? (i := 227) (by decide +kernel), List.mem_of_getElem? (i := 228) (by decide +kernel)⟩
theorem lw_p11 : lw_okq (⟨"ShareStreams$Bench", "dropLast", "()V"⟩, 4) := ⟨⟨by decide +kernel, by decide +kernel⟩, List.mem_of_getElem? (i := 24) (by decide +kernel), List.mem_of_getElem? (i := 235) (by decide +kernel), List.mem_of_getElem? (i := 236) (by decide +kernel)⟩
theorem lw_p12 : lw_okq (⟨"ShareStreams$CircuitText", "readInto", "(LShareStreams$Bench;)I"⟩, 3) := ⟨⟨by decide +kernel, by decide +kernel⟩, List.mem_of_getElem? (i := 68) (by decide +kernel), List.mem_of_getElem? (i := 247) (by decide +kernel), List.mem_of_getElem? (i := 248) (by decide +kernel)⟩
theorem lw_p13 : lw_okq (⟨"ShareStreams$CircuitText", "readLine", "(LShareStreams$Bench;)Z"⟩, 3) := ⟨⟨by decide +kernel, by decide +kernel⟩, List.mem_of_getElem? (i := 68) (by decide +kernel), List.mem_of_getElem? (i := 251) (by decide +kernel), List.mem_of_getElem? (i := 252) (by decide +kernel)⟩
theorem lw_p14 : lw_okq (⟨"ShareStreams$CircuitText", "kindHere", "()I"⟩, 3) := ⟨⟨by decide +kernel, by decide +kernel⟩, List.mem_of_getElem? (i := 68) (by decide +kernel), List.mem_of_getElem? (i := 255) (by decide +kernel), List.mem_of_getElem? (i := 256) (by decide +kernel)⟩
theorem lw_p15 : lw_okq (⟨"ShareStreams$CircuitText", "isHere", "(C)Z"⟩, 3) := ⟨⟨by decide +kernel, by decide +kernel⟩, List.mem_of_getElem? (i := 68) (by decide +kernel), List.mem_of_getElem? (i := 313) (by decide +kernel), List.mem_of_getElem? (i := 314) (by decide +kernel)⟩
def lw_privs_1 : List (MethodName × Nat) := [(⟨"ShareStreams", "addLine", "(IIII)I"⟩, 8), (⟨"ShareStreams$History", "push", "(LShareStreams$Bench;)V"⟩, 3), (⟨"ShareStreams$History", "stateAt", "(I)LShareStreams$Bench;"⟩, 3), (⟨"ShareStreams$Bench", "copyFrom", "(LShareStreams$Bench;)V"⟩, 4), (⟨"ShareStreams$Bench", "addAll", "(LShareStreams$Bench;)V"⟩, 4), (⟨"ShareStreams$Bench", "kindOf", "(I)I"⟩, 4), (⟨"ShareStreams$Bench", "numberOf", "(II)I"⟩, 4), (⟨"ShareStreams$Bench", "add", "(IIII)V"⟩, 4), (⟨"ShareStreams$Bench", "setNumber", "(III)V"⟩, 4), (⟨"ShareStreams$Bench", "has", "(I)Z"⟩, 4), (⟨"ShareStreams$Bench", "setSource", "(III)V"⟩, 4), (⟨"ShareStreams$Bench", "dropLast", "()V"⟩, 4), (⟨"ShareStreams$CircuitText", "readInto", "(LShareStreams$Bench;)I"⟩, 3), (⟨"ShareStreams$CircuitText", "readLine", "(LShareStreams$Bench;)Z"⟩, 3), (⟨"ShareStreams$CircuitText", "kindHere", "()I"⟩, 3), (⟨"ShareStreams$CircuitText", "isHere", "(C)Z"⟩, 3)]
theorem lw_r1 : ∀ q ∈ lw_privs_1, lw_okq q := List.forall_mem_cons.mpr ⟨lw_p0, List.forall_mem_cons.mpr ⟨lw_p1, List.forall_mem_cons.mpr ⟨lw_p2, List.forall_mem_cons.mpr ⟨lw_p3, List.forall_mem_cons.mpr ⟨lw_p4, List.forall_mem_cons.mpr ⟨lw_p5, List.forall_mem_cons.mpr ⟨lw_p6, List.forall_mem_cons.mpr ⟨lw_p7, List.forall_mem_cons.mpr ⟨lw_p8, List.forall_mem_cons.mpr ⟨lw_p9, List.forall_mem_cons.mpr ⟨lw_p10, List.forall_mem_cons.mpr ⟨lw_p11, List.forall_mem_cons.mpr ⟨lw_p12, List.forall_mem_cons.mpr ⟨lw_p13, List.forall_mem_cons.mpr ⟨lw_p14, List.forall_mem_cons.mpr ⟨lw_p15, fun _ h => absurd h List.not_mem_nil⟩⟩⟩⟩⟩⟩⟩⟩⟩⟩⟩⟩⟩⟩⟩⟩
theorem lw_p16 : lw_okq (⟨"ShareStreams$CircuitText", "takeWord", "(Ljava/lang/String;)Z"⟩, 3) := ⟨⟨by decide +kernel, by decide +kernel⟩, List.mem_of_getElem? (i := 68) (by decide +kernel), List.mem_of_getElem? (i := 317) (by decide +kernel), List.mem_of_getElem? (i := 318) (by decide +kernel)⟩
theorem lw_p17 : lw_okq (⟨"ShareStreams$CircuitText", "take", "(C)Z"⟩, 3) := ⟨⟨by decide +kernel, by decide +kernel⟩, List.mem_of_getElem? (i := 68) (by decide +kernel), List.mem_of_getElem? (i := 329) (by decide +kernel), List.mem_of_getElem? (i := 330) (by decide +kernel)⟩
theorem lw_p18 : lw_okq (⟨"ShareStreams$CircuitText", "readNumber", "(II)I"⟩, 3) := ⟨⟨by decide +kernel, by decide +kernel⟩, List.mem_of_getElem? (i := 68) (by decide +kernel), List.mem_of_getElem? (i := 351) (by decide +kernel), List.mem_of_getElem? (i := 352) (by decide +kernel)⟩
theorem lw_p19 : lw_okq (⟨"ShareStreams$CircuitText", "digitHere", "()I"⟩, 3) := ⟨⟨by decide +kernel, by decide +kernel⟩, List.mem_of_getElem? (i := 68) (by decide +kernel), List.mem_of_getElem? (i := 355) (by decide +kernel), List.mem_of_getElem? (i := 356) (by decide +kernel)⟩
theorem lw_p20 : lw_okq (⟨"ShareStreams$CircuitText", "append", "(C)V"⟩, 3) := ⟨⟨by decide +kernel, by decide +kernel⟩, List.mem_of_getElem? (i := 68) (by decide +kernel), List.mem_of_getElem? (i := 371) (by decide +kernel), List.mem_of_getElem? (i := 372) (by decide +kernel)⟩
theorem lw_p21 : lw_okq (⟨"ShareStreams$History", "popInto", "(LShareStreams$Bench;)V"⟩, 3) := ⟨⟨by decide +kernel, by decide +kernel⟩, List.mem_of_getElem? (i := 48) (by decide +kernel), List.mem_of_getElem? (i := 383) (by decide +kernel), List.mem_of_getElem? (i := 384) (by decide +kernel)⟩
theorem lw_p22 : lw_okq (⟨"ShareStreams", "onesOver", "(II)I"⟩, 8) := ⟨⟨by decide +kernel, by decide +kernel⟩, List.mem_of_getElem? (i := 16) (by decide +kernel), List.mem_of_getElem? (i := 401) (by decide +kernel), List.mem_of_getElem? (i := 402) (by decide +kernel)⟩
theorem lw_p23 : lw_okq (⟨"ShareStreams$Streams", "fill", "(LShareStreams$Bench;II)V"⟩, 1) := ⟨⟨by decide +kernel, by decide +kernel⟩, List.mem_of_getElem? (i := 102) (by decide +kernel), List.mem_of_getElem? (i := 405) (by decide +kernel), List.mem_of_getElem? (i := 406) (by decide +kernel)⟩
theorem lw_p24 : lw_okq (⟨"ShareStreams$Streams", "fillRow", "(LShareStreams$Bench;II)V"⟩, 1) := ⟨⟨by decide +kernel, by decide +kernel⟩, List.mem_of_getElem? (i := 102) (by decide +kernel), List.mem_of_getElem? (i := 409) (by decide +kernel), List.mem_of_getElem? (i := 410) (by decide +kernel)⟩
theorem lw_p25 : lw_okq (⟨"ShareStreams$Streams", "fillSource", "(IIII)V"⟩, 1) := ⟨⟨by decide +kernel, by decide +kernel⟩, List.mem_of_getElem? (i := 102) (by decide +kernel), List.mem_of_getElem? (i := 415) (by decide +kernel), List.mem_of_getElem? (i := 416) (by decide +kernel)⟩
theorem lw_p26 : lw_okq (⟨"ShareStreams$Streams", "setWord", "(IIJ)V"⟩, 1) := ⟨⟨by decide +kernel, by decide +kernel⟩, List.mem_of_getElem? (i := 102) (by decide +kernel), List.mem_of_getElem? (i := 422) (by decide +kernel), List.mem_of_getElem? (i := 423) (by decide +kernel)⟩
theorem lw_p27 : lw_okq (⟨"ShareStreams$Streams", "madeWord", "(LShareStreams$Bench;II)J"⟩, 1) := ⟨⟨by decide +kernel, by decide +kernel⟩, List.mem_of_getElem? (i := 102) (by decide +kernel), List.mem_of_getElem? (i := 426) (by decide +kernel), List.mem_of_getElem? (i := 427) (by decide +kernel)⟩
theorem lw_p28 : lw_okq (⟨"ShareStreams$Streams", "wordAt", "(II)J"⟩, 1) := ⟨⟨by decide +kernel, by decide +kernel⟩, List.mem_of_getElem? (i := 102) (by decide +kernel), List.mem_of_getElem? (i := 430) (by decide +kernel), List.mem_of_getElem? (i := 431) (by decide +kernel)⟩
theorem lw_p29 : lw_okq (⟨"ShareStreams$Streams", "onesIn", "(II)I"⟩, 1) := ⟨⟨by decide +kernel, by decide +kernel⟩, List.mem_of_getElem? (i := 102) (by decide +kernel), List.mem_of_getElem? (i := 435) (by decide +kernel), List.mem_of_getElem? (i := 436) (by decide +kernel)⟩
theorem lw_p30 : lw_okq (⟨"ShareStreams$Streams", "onesInBoth", "(III)I"⟩, 1) := ⟨⟨by decide +kernel, by decide +kernel⟩, List.mem_of_getElem? (i := 102) (by decide +kernel), List.mem_of_getElem? (i := 439) (by decide +kernel), List.mem_of_getElem? (i := 440) (by decide +kernel)⟩
theorem lw_p31 : lw_okq (⟨"ShareStreams$Figures", "workOut", "(LShareStreams$Bench;)V"⟩, 3) := ⟨⟨by decide +kernel, by decide +kernel⟩, List.mem_of_getElem? (i := 86) (by decide +kernel), List.mem_of_getElem? (i := 453) (by decide +kernel), List.mem_of_getElem? (i := 454) (by decide +kernel)⟩
def lw_privs_2 : List (MethodName × Nat) := [(⟨"ShareStreams$CircuitText", "takeWord", "(Ljava/lang/String;)Z"⟩, 3), (⟨"ShareStreams$CircuitText", "take", "(C)Z"⟩, 3), (⟨"ShareStreams$CircuitText", "readNumber", "(II)I"⟩, 3), (⟨"ShareStreams$CircuitText", "digitHere", "()I"⟩, 3), (⟨"ShareStreams$CircuitText", "append", "(C)V"⟩, 3), (⟨"ShareStreams$History", "popInto", "(LShareStreams$Bench;)V"⟩, 3), (⟨"ShareStreams", "onesOver", "(II)I"⟩, 8), (⟨"ShareStreams$Streams", "fill", "(LShareStreams$Bench;II)V"⟩, 1), (⟨"ShareStreams$Streams", "fillRow", "(LShareStreams$Bench;II)V"⟩, 1), (⟨"ShareStreams$Streams", "fillSource", "(IIII)V"⟩, 1), (⟨"ShareStreams$Streams", "setWord", "(IIJ)V"⟩, 1), (⟨"ShareStreams$Streams", "madeWord", "(LShareStreams$Bench;II)J"⟩, 1), (⟨"ShareStreams$Streams", "wordAt", "(II)J"⟩, 1), (⟨"ShareStreams$Streams", "onesIn", "(II)I"⟩, 1), (⟨"ShareStreams$Streams", "onesInBoth", "(III)I"⟩, 1), (⟨"ShareStreams$Figures", "workOut", "(LShareStreams$Bench;)V"⟩, 3)]
theorem lw_r2 : ∀ q ∈ lw_privs_2, lw_okq q := List.forall_mem_cons.mpr ⟨lw_p16, List.forall_mem_cons.mpr ⟨lw_p17, List.forall_mem_cons.mpr ⟨lw_p18, List.forall_mem_cons.mpr ⟨lw_p19, List.forall_mem_cons.mpr ⟨lw_p20, List.forall_mem_cons.mpr ⟨lw_p21, List.forall_mem_cons.mpr ⟨lw_p22, List.forall_mem_cons.mpr ⟨lw_p23, List.forall_mem_cons.mpr ⟨lw_p24, List.forall_mem_cons.mpr ⟨lw_p25, List.forall_mem_cons.mpr ⟨lw_p26, List.forall_mem_cons.mpr ⟨lw_p27, List.forall_mem_cons.mpr ⟨lw_p28, List.forall_mem_cons.mpr ⟨lw_p29, List.forall_mem_cons.mpr ⟨lw_p30, List.forall_mem_cons.mpr ⟨lw_p31, fun _ h => absurd h List.not_mem_nil⟩⟩⟩⟩⟩⟩⟩⟩⟩⟩⟩⟩⟩⟩⟩⟩
theorem lw_p32 : lw_okq (⟨"ShareStreams$Figures", "exactShareIn", "(LShareStreams$Bench;I)I"⟩, 3) := ⟨⟨by decide +kernel, by decide +kernel⟩, List.mem_of_getElem? (i := 86) (by decide +kernel), List.mem_of_getElem? (i := 457) (by decide +kernel), List.mem_of_getElem? (i := 458) (by decide +kernel)⟩
theorem lw_p33 : lw_okq (⟨"ShareStreams$Figures", "exactShareOf", "(I)I"⟩, 3) := ⟨⟨by decide +kernel, by decide +kernel⟩, List.mem_of_getElem? (i := 86) (by decide +kernel), List.mem_of_getElem? (i := 462) (by decide +kernel), List.mem_of_getElem? (i := 463) (by decide +kernel)⟩
theorem lw_p34 : lw_okq (⟨"ShareStreams$Figures", "depthIn", "(LShareStreams$Bench;I)I"⟩, 3) := ⟨⟨by decide +kernel, by decide +kernel⟩, List.mem_of_getElem? (i := 86) (by decide +kernel), List.mem_of_getElem? (i := 477) (by decide +kernel), List.mem_of_getElem? (i := 478) (by decide +kernel)⟩
theorem lw_p35 : lw_okq (⟨"ShareStreams$Figures", "depthOf", "(I)I"⟩, 3) := ⟨⟨by decide +kernel, by decide +kernel⟩, List.mem_of_getElem? (i := 86) (by decide +kernel), List.mem_of_getElem? (i := 482) (by decide +kernel), List.mem_of_getElem? (i := 483) (by decide +kernel)⟩
theorem lw_p36 : lw_okq (⟨"ShareStreams$Figures", "originsIn", "(LShareStreams$Bench;I)I"⟩, 3) := ⟨⟨by decide +kernel, by decide +kernel⟩, List.mem_of_getElem? (i := 86) (by decide +kernel), List.mem_of_getElem? (i := 489) (by decide +kernel), List.mem_of_getElem? (i := 490) (by decide +kernel)⟩
theorem lw_p37 : lw_okq (⟨"ShareStreams", "errorOver", "(II)I"⟩, 8) := ⟨⟨by decide +kernel, by decide +kernel⟩, List.mem_of_getElem? (i := 16) (by decide +kernel), List.mem_of_getElem? (i := 494) (by decide +kernel), List.mem_of_getElem? (i := 495) (by decide +kernel)⟩
theorem lw_p38 : lw_okq (⟨"ShareStreams", "errorOfFilled", "(II)I"⟩, 8) := ⟨⟨by decide +kernel, by decide +kernel⟩, List.mem_of_getElem? (i := 16) (by decide +kernel), List.mem_of_getElem? (i := 498) (by decide +kernel), List.mem_of_getElem? (i := 499) (by decide +kernel)⟩
theorem lw_p39 : lw_okq (⟨"ShareStreams", "errorOfCount", "(III)I"⟩, 8) := ⟨⟨by decide +kernel, by decide +kernel⟩, List.mem_of_getElem? (i := 16) (by decide +kernel), List.mem_of_getElem? (i := 502) (by decide +kernel), List.mem_of_getElem? (i := 503) (by decide +kernel)⟩
theorem lw_p40 : lw_okq (⟨"ShareStreams$Figures", "sourcesOf", "(I)I"⟩, 3) := ⟨⟨by decide +kernel, by decide +kernel⟩, List.mem_of_getElem? (i := 86) (by decide +kernel), List.mem_of_getElem? (i := 510) (by decide +kernel), List.mem_of_getElem? (i := 511) (by decide +kernel)⟩
theorem lw_p41 : lw_okq (⟨"ShareStreams$Streams", "bitAt", "(II)I"⟩, 1) := ⟨⟨by decide +kernel, by decide +kernel⟩, List.mem_of_getElem? (i := 102) (by decide +kernel), List.mem_of_getElem? (i := 524) (by decide +kernel), List.mem_of_getElem? (i := 525) (by decide +kernel)⟩
theorem lw_p42 : lw_okq (⟨"ShareStreams", "lastLengthBeyond", "(II)I"⟩, 8) := ⟨⟨by decide +kernel, by decide +kernel⟩, List.mem_of_getElem? (i := 16) (by decide +kernel), List.mem_of_getElem? (i := 543) (by decide +kernel), List.mem_of_getElem? (i := 544) (by decide +kernel)⟩
theorem lw_p43 : lw_okq (⟨"ShareStreams", "errorWithSeed", "(III)I"⟩, 8) := ⟨⟨by decide +kernel, by decide +kernel⟩, List.mem_of_getElem? (i := 16) (by decide +kernel), List.mem_of_getElem? (i := 551) (by decide +kernel), List.mem_of_getElem? (i := 552) (by decide +kernel)⟩
theorem lw_p44 : lw_okq (⟨"ShareStreams$Streams", "refill", "(LShareStreams$Bench;III)V"⟩, 1) := ⟨⟨by decide +kernel, by decide +kernel⟩, List.mem_of_getElem? (i := 102) (by decide +kernel), List.mem_of_getElem? (i := 555) (by decide +kernel), List.mem_of_getElem? (i := 556) (by decide +kernel)⟩
theorem lw_p45 : lw_okq (⟨"ShareStreams$Bench", "sources", "()I"⟩, 4) := ⟨⟨by decide +kernel, by decide +kernel⟩, List.mem_of_getElem? (i := 24) (by decide +kernel), List.mem_of_getElem? (i := 567) (by decide +kernel), List.mem_of_getElem? (i := 568) (by decide +kernel)⟩
theorem lw_p46 : lw_okq (⟨"ShareStreams", "sumOfErrors", "()I"⟩, 8) := ⟨⟨by decide +kernel, by decide +kernel⟩, List.mem_of_getElem? (i := 16) (by decide +kernel), List.mem_of_getElem? (i := 571) (by decide +kernel), List.mem_of_getElem? (i := 572) (by decide +kernel)⟩
theorem lw_p47 : lw_okq (⟨"ShareStreams", "fillAll", "()V"⟩, 8) := ⟨⟨by decide +kernel, by decide +kernel⟩, List.mem_of_getElem? (i := 16) (by decide +kernel), List.mem_of_getElem? (i := 575) (by decide +kernel), List.mem_of_getElem? (i := 576) (by decide +kernel)⟩
def lw_privs_3 : List (MethodName × Nat) := [(⟨"ShareStreams$Figures", "exactShareIn", "(LShareStreams$Bench;I)I"⟩, 3), (⟨"ShareStreams$Figures", "exactShareOf", "(I)I"⟩, 3), (⟨"ShareStreams$Figures", "depthIn", "(LShareStreams$Bench;I)I"⟩, 3), (⟨"ShareStreams$Figures", "depthOf", "(I)I"⟩, 3), (⟨"ShareStreams$Figures", "originsIn", "(LShareStreams$Bench;I)I"⟩, 3), (⟨"ShareStreams", "errorOver", "(II)I"⟩, 8), (⟨"ShareStreams", "errorOfFilled", "(II)I"⟩, 8), (⟨"ShareStreams", "errorOfCount", "(III)I"⟩, 8), (⟨"ShareStreams$Figures", "sourcesOf", "(I)I"⟩, 3), (⟨"ShareStreams$Streams", "bitAt", "(II)I"⟩, 1), (⟨"ShareStreams", "lastLengthBeyond", "(II)I"⟩, 8), (⟨"ShareStreams", "errorWithSeed", "(III)I"⟩, 8), (⟨"ShareStreams$Streams", "refill", "(LShareStreams$Bench;III)V"⟩, 1), (⟨"ShareStreams$Bench", "sources", "()I"⟩, 4), (⟨"ShareStreams", "sumOfErrors", "()I"⟩, 8), (⟨"ShareStreams", "fillAll", "()V"⟩, 8)]
theorem lw_r3 : ∀ q ∈ lw_privs_3, lw_okq q := List.forall_mem_cons.mpr ⟨lw_p32, List.forall_mem_cons.mpr ⟨lw_p33, List.forall_mem_cons.mpr ⟨lw_p34, List.forall_mem_cons.mpr ⟨lw_p35, List.forall_mem_cons.mpr ⟨lw_p36, List.forall_mem_cons.mpr ⟨lw_p37, List.forall_mem_cons.mpr ⟨lw_p38, List.forall_mem_cons.mpr ⟨lw_p39, List.forall_mem_cons.mpr ⟨lw_p40, List.forall_mem_cons.mpr ⟨lw_p41, List.forall_mem_cons.mpr ⟨lw_p42, List.forall_mem_cons.mpr ⟨lw_p43, List.forall_mem_cons.mpr ⟨lw_p44, List.forall_mem_cons.mpr ⟨lw_p45, List.forall_mem_cons.mpr ⟨lw_p46, List.forall_mem_cons.mpr ⟨lw_p47, fun _ h => absurd h List.not_mem_nil⟩⟩⟩⟩⟩⟩⟩⟩⟩⟩⟩⟩⟩⟩⟩⟩
theorem lw_p48 : lw_okq (⟨"ShareStreams", "lineWithGreatestError", "()I"⟩, 8) := ⟨⟨by decide +kernel, by decide +kernel⟩, List.mem_of_getElem? (i := 16) (by decide +kernel), List.mem_of_getElem? (i := 579) (by decide +kernel), List.mem_of_getElem? (i := 580) (by decide +kernel)⟩
theorem lw_p49 : lw_okq (⟨"ShareStreams$Figures", "greatestDepth", "(I)I"⟩, 3) := ⟨⟨by decide +kernel, by decide +kernel⟩, List.mem_of_getElem? (i := 86) (by decide +kernel), List.mem_of_getElem? (i := 583) (by decide +kernel), List.mem_of_getElem? (i := 584) (by decide +kernel)⟩
theorem lw_p50 : lw_okq (⟨"ShareStreamsModel", "adds", "(IIII)I"⟩, 18) := ⟨⟨by decide +kernel, by decide +kernel⟩, List.mem_of_getElem? (i := 587) (by decide +kernel), List.mem_of_getElem? (i := 665) (by decide +kernel), List.mem_of_getElem? (i := 666) (by decide +kernel)⟩
theorem lw_p51 : lw_okq (⟨"ShareStreamsModel", "remember", "()V"⟩, 18) := ⟨⟨by decide +kernel, by decide +kernel⟩, List.mem_of_getElem? (i := 587) (by decide +kernel), List.mem_of_getElem? (i := 670) (by decide +kernel), List.mem_of_getElem? (i := 671) (by decide +kernel)⟩
theorem lw_p52 : lw_okq (⟨"ShareStreamsModel", "puts", "(IIII)V"⟩, 18) := ⟨⟨by decide +kernel, by decide +kernel⟩, List.mem_of_getElem? (i := 587) (by decide +kernel), List.mem_of_getElem? (i := 674) (by decide +kernel), List.mem_of_getElem? (i := 675) (by decide +kernel)⟩
theorem lw_p53 : lw_okq (⟨"ShareStreamsModel", "acted", "(I)I"⟩, 18) := ⟨⟨by decide +kernel, by decide +kernel⟩, List.mem_of_getElem? (i := 587) (by decide +kernel), List.mem_of_getElem? (i := 678) (by decide +kernel), List.mem_of_getElem? (i := 679) (by decide +kernel)⟩
theorem lw_p54 : lw_okq (⟨"ShareStreamsModel", "isLine", "(I)Z"⟩, 18) := ⟨⟨by decide +kernel, by decide +kernel⟩, List.mem_of_getElem? (i := 587) (by decide +kernel), List.mem_of_getElem? (i := 687) (by decide +kernel), List.mem_of_getElem? (i := 688) (by decide +kernel)⟩
theorem lw_p55 : lw_okq (⟨"ShareStreamsModel", "of", "(II)I"⟩, 18) := ⟨⟨by decide +kernel, by decide +kernel⟩, List.mem_of_getElem? (i := 587) (by decide +kernel), List.mem_of_getElem? (i := 710) (by decide +kernel), List.mem_of_getElem? (i := 711) (by decide +kernel)⟩
theorem lw_p56 : lw_okq (⟨"ShareStreamsModel", "fault", "()I"⟩, 18) := ⟨⟨by decide +kernel, by decide +kernel⟩, List.mem_of_getElem? (i := 587) (by decide +kernel), List.mem_of_getElem? (i := 736) (by decide +kernel), List.mem_of_getElem? (i := 737) (by decide +kernel)⟩
theorem lw_p57 : lw_okq (⟨"ShareStreamsModel", "readsLine", "()Z"⟩, 18) := ⟨⟨by decide +kernel, by decide +kernel⟩, List.mem_of_getElem? (i := 587) (by decide +kernel), List.mem_of_getElem? (i := 740) (by decide +kernel), List.mem_of_getElem? (i := 741) (by decide +kernel)⟩
theorem lw_p58 : lw_okq (⟨"ShareStreamsModel", "readsWord", "()I"⟩, 18) := ⟨⟨by decide +kernel, by decide +kernel⟩, List.mem_of_getElem? (i := 587) (by decide +kernel), List.mem_of_getElem? (i := 744) (by decide +kernel), List.mem_of_getElem? (i := 745) (by decide +kernel)⟩
theorem lw_p59 : lw_okq (⟨"ShareStreamsModel", "likeness", "(J)I"⟩, 18) := ⟨⟨by decide +kernel, by decide +kernel⟩, List.mem_of_getElem? (i := 587) (by decide +kernel), List.mem_of_getElem? (i := 748) (by decide +kernel), List.mem_of_getElem? (i := 749) (by decide +kernel)⟩
theorem lw_p60 : lw_okq (⟨"ShareStreamsModel", "readsPart", "(II)Z"⟩, 18) := ⟨⟨by decide +kernel, by decide +kernel⟩, List.mem_of_getElem? (i := 587) (by decide +kernel), List.mem_of_getElem? (i := 755) (by decide +kernel), List.mem_of_getElem? (i := 756) (by decide +kernel)⟩
theorem lw_p61 : lw_okq (⟨"ShareStreamsModel", "readsNumber", "(II)Z"⟩, 18) := ⟨⟨by decide +kernel, by decide +kernel⟩, List.mem_of_getElem? (i := 587) (by decide +kernel), List.mem_of_getElem? (i := 759) (by decide +kernel), List.mem_of_getElem? (i := 760) (by decide +kernel)⟩
theorem lw_p62 : lw_okq (⟨"ShareStreamsModel", "takes", "(I)Z"⟩, 18) := ⟨⟨by decide +kernel, by decide +kernel⟩, List.mem_of_getElem? (i := 587) (by decide +kernel), List.mem_of_getElem? (i := 763) (by decide +kernel), List.mem_of_getElem? (i := 764) (by decide +kernel)⟩
theorem lw_p63 : lw_okq (⟨"ShareStreamsModel", "isHere", "(II)Z"⟩, 18) := ⟨⟨by decide +kernel, by decide +kernel⟩, List.mem_of_getElem? (i := 587) (by decide +kernel), List.mem_of_getElem? (i := 767) (by decide +kernel), List.mem_of_getElem? (i := 768) (by decide +kernel)⟩
def lw_privs_4 : List (MethodName × Nat) := [(⟨"ShareStreams", "lineWithGreatestError", "()I"⟩, 8), (⟨"ShareStreams$Figures", "greatestDepth", "(I)I"⟩, 3), (⟨"ShareStreamsModel", "adds", "(IIII)I"⟩, 18), (⟨"ShareStreamsModel", "remember", "()V"⟩, 18), (⟨"ShareStreamsModel", "puts", "(IIII)V"⟩, 18), (⟨"ShareStreamsModel", "acted", "(I)I"⟩, 18), (⟨"ShareStreamsModel", "isLine", "(I)Z"⟩, 18), (⟨"ShareStreamsModel", "of", "(II)I"⟩, 18), (⟨"ShareStreamsModel", "fault", "()I"⟩, 18), (⟨"ShareStreamsModel", "readsLine", "()Z"⟩, 18), (⟨"ShareStreamsModel", "readsWord", "()I"⟩, 18), (⟨"ShareStreamsModel", "likeness", "(J)I"⟩, 18), (⟨"ShareStreamsModel", "readsPart", "(II)Z"⟩, 18), (⟨"ShareStreamsModel", "readsNumber", "(II)Z"⟩, 18), (⟨"ShareStreamsModel", "takes", "(I)Z"⟩, 18), (⟨"ShareStreamsModel", "isHere", "(II)Z"⟩, 18)]
theorem lw_r4 : ∀ q ∈ lw_privs_4, lw_okq q := List.forall_mem_cons.mpr ⟨lw_p48, List.forall_mem_cons.mpr ⟨lw_p49, List.forall_mem_cons.mpr ⟨lw_p50, List.forall_mem_cons.mpr ⟨lw_p51, List.forall_mem_cons.mpr ⟨lw_p52, List.forall_mem_cons.mpr ⟨lw_p53, List.forall_mem_cons.mpr ⟨lw_p54, List.forall_mem_cons.mpr ⟨lw_p55, List.forall_mem_cons.mpr ⟨lw_p56, List.forall_mem_cons.mpr ⟨lw_p57, List.forall_mem_cons.mpr ⟨lw_p58, List.forall_mem_cons.mpr ⟨lw_p59, List.forall_mem_cons.mpr ⟨lw_p60, List.forall_mem_cons.mpr ⟨lw_p61, List.forall_mem_cons.mpr ⟨lw_p62, List.forall_mem_cons.mpr ⟨lw_p63, fun _ h => absurd h List.not_mem_nil⟩⟩⟩⟩⟩⟩⟩⟩⟩⟩⟩⟩⟩⟩⟩⟩
theorem lw_p64 : lw_okq (⟨"ShareStreamsModel", "isAhead", "(I)Z"⟩, 18) := ⟨⟨by decide +kernel, by decide +kernel⟩, List.mem_of_getElem? (i := 587) (by decide +kernel), List.mem_of_getElem? (i := 772) (by decide +kernel), List.mem_of_getElem? (i := 773) (by decide +kernel)⟩
theorem lw_p65 : lw_okq (⟨"ShareStreamsModel", "lays", "(II)V"⟩, 18) := ⟨⟨by decide +kernel, by decide +kernel⟩, List.mem_of_getElem? (i := 587) (by decide +kernel), List.mem_of_getElem? (i := 796) (by decide +kernel), List.mem_of_getElem? (i := 797) (by decide +kernel)⟩
theorem lw_p66 : lw_okq (⟨"ShareStreamsModel", "bitOf", "(II)I"⟩, 18) := ⟨⟨by decide +kernel, by decide +kernel⟩, List.mem_of_getElem? (i := 587) (by decide +kernel), List.mem_of_getElem? (i := 800) (by decide +kernel), List.mem_of_getElem? (i := 801) (by decide +kernel)⟩
theorem lw_p67 : lw_okq (⟨"ShareStreamsModel", "bitAt", "(II)I"⟩, 18) := ⟨⟨by decide +kernel, by decide +kernel⟩, List.mem_of_getElem? (i := 587) (by decide +kernel), List.mem_of_getElem? (i := 804) (by decide +kernel), List.mem_of_getElem? (i := 805) (by decide +kernel)⟩
theorem lw_p68 : lw_okq (⟨"ShareStreamsModel", "findsExact", "(I)V"⟩, 18) := ⟨⟨by decide +kernel, by decide +kernel⟩, List.mem_of_getElem? (i := 587) (by decide +kernel), List.mem_of_getElem? (i := 811) (by decide +kernel), List.mem_of_getElem? (i := 812) (by decide +kernel)⟩
theorem lw_p69 : lw_okq (⟨"ShareStreamsModel", "findsDepths", "()V"⟩, 18) := ⟨⟨by decide +kernel, by decide +kernel⟩, List.mem_of_getElem? (i := 587) (by decide +kernel), List.mem_of_getElem? (i := 818) (by decide +kernel), List.mem_of_getElem? (i := 819) (by decide +kernel)⟩
theorem lw_p70 : lw_okq (⟨"ShareStreamsModel", "countOf", "(II)I"⟩, 18) := ⟨⟨by decide +kernel, by decide +kernel⟩, List.mem_of_getElem? (i := 587) (by decide +kernel), List.mem_of_getElem? (i := 822) (by decide +kernel), List.mem_of_getElem? (i := 823) (by decide +kernel)⟩
theorem lw_p71 : lw_okq (⟨"ShareStreamsModel", "errorBy", "(III)I"⟩, 18) := ⟨⟨by decide +kernel, by decide +kernel⟩, List.mem_of_getElem? (i := 587) (by decide +kernel), List.mem_of_getElem? (i := 826) (by decide +kernel), List.mem_of_getElem? (i := 827) (by decide +kernel)⟩
theorem lw_p72 : lw_okq (⟨"ShareStreamsModel", "errorOf", "(II)I"⟩, 18) := ⟨⟨by decide +kernel, by decide +kernel⟩, List.mem_of_getElem? (i := 587) (by decide +kernel), List.mem_of_getElem? (i := 849) (by decide +kernel), List.mem_of_getElem? (i := 850) (by decide +kernel)⟩
theorem lw_p73 : lw_okq (⟨"ShareStreamsModel", "manySources", "()I"⟩, 18) := ⟨⟨by decide +kernel, by decide +kernel⟩, List.mem_of_getElem? (i := 587) (by decide +kernel), List.mem_of_getElem? (i := 869) (by decide +kernel), List.mem_of_getElem? (i := 870) (by decide +kernel)⟩
theorem lw_p74 : lw_okq (⟨"ShareStreamsModel", "errors", "()I"⟩, 18) := ⟨⟨by decide +kernel, by decide +kernel⟩, List.mem_of_getElem? (i := 587) (by decide +kernel), List.mem_of_getElem? (i := 873) (by decide +kernel), List.mem_of_getElem? (i := 874) (by decide +kernel)⟩
theorem lw_p75 : lw_okq (⟨"ShareStreamsModel", "worst", "()I"⟩, 18) := ⟨⟨by decide +kernel, by decide +kernel⟩, List.mem_of_getElem? (i := 587) (by decide +kernel), List.mem_of_getElem? (i := 877) (by decide +kernel), List.mem_of_getElem? (i := 878) (by decide +kernel)⟩
theorem lw_p76 : lw_okq (⟨"ShareStreamsModel", "deepest", "()I"⟩, 18) := ⟨⟨by decide +kernel, by decide +kernel⟩, List.mem_of_getElem? (i := 587) (by decide +kernel), List.mem_of_getElem? (i := 881) (by decide +kernel), List.mem_of_getElem? (i := 882) (by decide +kernel)⟩
def lw_privs_5 : List (MethodName × Nat) := [(⟨"ShareStreamsModel", "isAhead", "(I)Z"⟩, 18), (⟨"ShareStreamsModel", "lays", "(II)V"⟩, 18), (⟨"ShareStreamsModel", "bitOf", "(II)I"⟩, 18), (⟨"ShareStreamsModel", "bitAt", "(II)I"⟩, 18), (⟨"ShareStreamsModel", "findsExact", "(I)V"⟩, 18), (⟨"ShareStreamsModel", "findsDepths", "()V"⟩, 18), (⟨"ShareStreamsModel", "countOf", "(II)I"⟩, 18), (⟨"ShareStreamsModel", "errorBy", "(III)I"⟩, 18), (⟨"ShareStreamsModel", "errorOf", "(II)I"⟩, 18), (⟨"ShareStreamsModel", "manySources", "()I"⟩, 18), (⟨"ShareStreamsModel", "errors", "()I"⟩, 18), (⟨"ShareStreamsModel", "worst", "()I"⟩, 18), (⟨"ShareStreamsModel", "deepest", "()I"⟩, 18)]
theorem lw_r5 : ∀ q ∈ lw_privs_5, lw_okq q := List.forall_mem_cons.mpr ⟨lw_p64, List.forall_mem_cons.mpr ⟨lw_p65, List.forall_mem_cons.mpr ⟨lw_p66, List.forall_mem_cons.mpr ⟨lw_p67, List.forall_mem_cons.mpr ⟨lw_p68, List.forall_mem_cons.mpr ⟨lw_p69, List.forall_mem_cons.mpr ⟨lw_p70, List.forall_mem_cons.mpr ⟨lw_p71, List.forall_mem_cons.mpr ⟨lw_p72, List.forall_mem_cons.mpr ⟨lw_p73, List.forall_mem_cons.mpr ⟨lw_p74, List.forall_mem_cons.mpr ⟨lw_p75, List.forall_mem_cons.mpr ⟨lw_p76, fun _ h => absurd h List.not_mem_nil⟩⟩⟩⟩⟩⟩⟩⟩⟩⟩⟩⟩⟩
def lw_privs : List (MethodName × Nat) := lw_privs_1 ++ (lw_privs_2 ++ (lw_privs_3 ++ (lw_privs_4 ++ (lw_privs_5))))
def lw_tbl : List Cond := k2_sels lw_privs ++ tables_1
theorem lw_privs_ok : ∀ q ∈ lw_privs, lw_okq q := by
  show ∀ q ∈ lw_privs_1 ++ (lw_privs_2 ++ (lw_privs_3 ++ (lw_privs_4 ++ (lw_privs_5)))), lw_okq q
  exact List.forall_mem_append.mpr ⟨lw_r1, List.forall_mem_append.mpr ⟨lw_r2, List.forall_mem_append.mpr ⟨lw_r3, List.forall_mem_append.mpr ⟨lw_r4, lw_r5⟩⟩⟩⟩
-- ===== end of PART A; then your names; then what follows =====
/-! ===== BEGIN words of one list among another's, by their places ===== -/
theorem goodIn_r {big : List Cond} (ws : List Cond) (ps : List Nat) (hp : ws = ps.filterMap (fun i => big[i]?)) (h : ws.all goodWord = true) : GoodIn big ws := by
  intro w hw
  have h1 := List.all_eq_true.mp h w hw
  rw [hp] at hw
  obtain ⟨i, -, hi⟩ := List.mem_filterMap.mp hw
  have hm : w ∈ big := by first | exact List.mem_of_getElem? hi | exact List.getElem?_mem hi
  exact ⟨hm, good_of_word h1⟩
theorem goodIn_app {big a b : List Cond} (ha : GoodIn big a) (hb : GoodIn big b) : GoodIn big (a ++ b) := fun w h => (List.mem_append.mp h).elim (ha w) (hb w)
theorem goodIn_ca {big a b : List Cond} {c : Cond} (ha : GoodIn big (c :: a)) (hb : GoodIn big b) : GoodIn big (c :: (a ++ b)) := fun w h => (List.mem_cons.mp h).elim (fun e => ha w (List.mem_cons.mpr (Or.inl e))) (fun h => (List.mem_append.mp h).elim (fun h => ha w (List.mem_cons.mpr (Or.inr h))) (hb w))
theorem goodIn_sub {big ws : List Cond} (hm : ∀ w ∈ ws, w ∈ big) (h : ws.all goodWord = true) : GoodIn big ws := fun w hw => ⟨hm w hw, good_of_word (List.all_eq_true.mp h w hw)⟩
/-! ===== END ===== -/

def RX0 : String := "ShareStreams$Bench"
def TX0 : u_T := fun k => match k with
  | 0 => ("ShareStreams$Bench", "length", "I", false)
  | 1 => ("ShareStreams$Bench", "size", "I", false)
  | 2 => ("ShareStreams$Bench", "kinds", "[I", true)
  | _ => ("ShareStreams$Bench", "numbers", "[I", true)
def tyX0 : Nat → FieldType := fun k => match k with
  | 0 => .int
  | 1 => .int
  | 2 => .array .int
  | _ => .array .int
abbrev wsX00 : List Cond := u_ws RX0 TX0 4
theorem nmX0 : ∀ a, a < 4 → ∀ b, b < 4 → a ≠ b → (TX0 a).2.1 ≠ (TX0 b).2.1 := by decide +kernel
theorem tyX0_ok : ∀ k, k < 4 → parseFieldDescriptor (TX0 k).2.2.1 = some (tyX0 k) := by decide +kernel
abbrev cX0_init : ByteArray := prog_2_method_1_code
def yX0_init : MethodName := ⟨RX0, "<init>", "()V"⟩
abbrev cX0_has : ByteArray := prog_2_method_2_code
def yX0_has : MethodName := ⟨RX0, "has", "(I)Z"⟩
abbrev cX0_kindOf : ByteArray := prog_2_method_3_code
def yX0_kindOf : MethodName := ⟨RX0, "kindOf", "(I)I"⟩
abbrev cX0_numberOf : ByteArray := prog_2_method_4_code
def yX0_numberOf : MethodName := ⟨RX0, "numberOf", "(II)I"⟩
abbrev cX0_setNumber : ByteArray := prog_2_method_5_code
def yX0_setNumber : MethodName := ⟨RX0, "setNumber", "(III)V"⟩
abbrev cX0_sources : ByteArray := prog_2_method_6_code
def yX0_sources : MethodName := ⟨RX0, "sources", "()I"⟩
abbrev cX0_add : ByteArray := prog_2_method_7_code
def yX0_add : MethodName := ⟨RX0, "add", "(IIII)V"⟩
abbrev cX0_addAll : ByteArray := prog_2_method_8_code
def yX0_addAll : MethodName := ⟨RX0, "addAll", "(LShareStreams$Bench;)V"⟩
abbrev cX0_setSource : ByteArray := prog_2_method_9_code
def yX0_setSource : MethodName := ⟨RX0, "setSource", "(III)V"⟩
abbrev cX0_dropLast : ByteArray := prog_2_method_10_code
def yX0_dropLast : MethodName := ⟨RX0, "dropLast", "()V"⟩
abbrev cX0_copyFrom : ByteArray := prog_2_method_11_code
def yX0_copyFrom : MethodName := ⟨RX0, "copyFrom", "(LShareStreams$Bench;)V"⟩
def RX1 : String := "ShareStreams$CircuitText"
def TX1 : u_T := fun k => match k with
  | 0 => ("ShareStreams$CircuitText", "characters", "[C", true)
  | 1 => ("ShareStreams$CircuitText", "size", "I", false)
  | _ => ("ShareStreams$CircuitText", "place", "I", false)
def tyX1 : Nat → FieldType := fun k => match k with
  | 0 => .array .char
  | 1 => .int
  | _ => .int
abbrev wsX10 : List Cond := u_ws RX1 TX1 3
theorem nmX1 : ∀ a, a < 3 → ∀ b, b < 3 → a ≠ b → (TX1 a).2.1 ≠ (TX1 b).2.1 := by decide +kernel
theorem tyX1_ok : ∀ k, k < 3 → parseFieldDescriptor (TX1 k).2.2.1 = some (tyX1 k) := by decide +kernel
abbrev cX1_init : ByteArray := prog_3_method_1_code
def yX1_init : MethodName := ⟨RX1, "<init>", "()V"⟩
abbrev cX1_append : ByteArray := prog_3_method_2_code
def yX1_append : MethodName := ⟨RX1, "append", "(C)V"⟩
abbrev cX1_readInto : ByteArray := prog_3_method_3_code
def yX1_readInto : MethodName := ⟨RX1, "readInto", "(LShareStreams$Bench;)I"⟩
abbrev cX1_readLine : ByteArray := prog_3_method_4_code
def yX1_readLine : MethodName := ⟨RX1, "readLine", "(LShareStreams$Bench;)Z"⟩
abbrev cX1_kindHere : ByteArray := prog_3_method_5_code
def yX1_kindHere : MethodName := ⟨RX1, "kindHere", "()I"⟩
abbrev cX1_wordOfKind : ByteArray := prog_3_method_6_code
def yX1_wordOfKind : MethodName := ⟨RX1, "wordOfKind", "(I)Ljava/lang/String;"⟩
abbrev cX1_leastNumber : ByteArray := prog_3_method_7_code
def yX1_leastNumber : MethodName := ⟨RX1, "leastNumber", "(II)I"⟩
abbrev cX1_mostNumber : ByteArray := prog_3_method_8_code
def yX1_mostNumber : MethodName := ⟨RX1, "mostNumber", "(II)I"⟩
abbrev cX1_readNumber : ByteArray := prog_3_method_9_code
def yX1_readNumber : MethodName := ⟨RX1, "readNumber", "(II)I"⟩
abbrev cX1_digitHere : ByteArray := prog_3_method_10_code
def yX1_digitHere : MethodName := ⟨RX1, "digitHere", "()I"⟩
abbrev cX1_takeWord : ByteArray := prog_3_method_11_code
def yX1_takeWord : MethodName := ⟨RX1, "takeWord", "(Ljava/lang/String;)Z"⟩
abbrev cX1_take : ByteArray := prog_3_method_12_code
def yX1_take : MethodName := ⟨RX1, "take", "(C)Z"⟩
abbrev cX1_isHere : ByteArray := prog_3_method_13_code
def yX1_isHere : MethodName := ⟨RX1, "isHere", "(C)Z"⟩
def RX2 : String := "ShareStreams$Figures"
def TX2 : u_T := fun k => match k with
  | 0 => ("ShareStreams$Figures", "exactShares", "[I", true)
  | 1 => ("ShareStreams$Figures", "depths", "[I", true)
  | _ => ("ShareStreams$Figures", "origins", "[I", true)
def tyX2 : Nat → FieldType := fun k => match k with
  | 0 => .array .int
  | 1 => .array .int
  | _ => .array .int
abbrev wsX20 : List Cond := u_ws RX2 TX2 3
theorem nmX2 : ∀ a, a < 3 → ∀ b, b < 3 → a ≠ b → (TX2 a).2.1 ≠ (TX2 b).2.1 := by decide +kernel
theorem tyX2_ok : ∀ k, k < 3 → parseFieldDescriptor (TX2 k).2.2.1 = some (tyX2 k) := by decide +kernel
abbrev cX2_init : ByteArray := prog_4_method_1_code
def yX2_init : MethodName := ⟨RX2, "<init>", "()V"⟩
abbrev cX2_workOut : ByteArray := prog_4_method_2_code
def yX2_workOut : MethodName := ⟨RX2, "workOut", "(LShareStreams$Bench;)V"⟩
abbrev cX2_exactShareOf : ByteArray := prog_4_method_3_code
def yX2_exactShareOf : MethodName := ⟨RX2, "exactShareOf", "(I)I"⟩
abbrev cX2_depthOf : ByteArray := prog_4_method_4_code
def yX2_depthOf : MethodName := ⟨RX2, "depthOf", "(I)I"⟩
abbrev cX2_sourcesOf : ByteArray := prog_4_method_5_code
def yX2_sourcesOf : MethodName := ⟨RX2, "sourcesOf", "(I)I"⟩
abbrev cX2_greatestDepth : ByteArray := prog_4_method_6_code
def yX2_greatestDepth : MethodName := ⟨RX2, "greatestDepth", "(I)I"⟩
abbrev cX2_exactShareIn : ByteArray := prog_4_method_7_code
def yX2_exactShareIn : MethodName := ⟨RX2, "exactShareIn", "(LShareStreams$Bench;I)I"⟩
abbrev cX2_productOf : ByteArray := prog_4_method_8_code
def yX2_productOf : MethodName := ⟨RX2, "productOf", "(JJ)I"⟩
abbrev cX2_mixOf : ByteArray := prog_4_method_9_code
def yX2_mixOf : MethodName := ⟨RX2, "mixOf", "(JJJ)I"⟩
abbrev cX2_depthIn : ByteArray := prog_4_method_10_code
def yX2_depthIn : MethodName := ⟨RX2, "depthIn", "(LShareStreams$Bench;I)I"⟩
abbrev cX2_originsIn : ByteArray := prog_4_method_11_code
def yX2_originsIn : MethodName := ⟨RX2, "originsIn", "(LShareStreams$Bench;I)I"⟩
def RX3 : String := "ShareStreams$History"
def TX3 : u_T := fun k => match k with
  | 0 => ("ShareStreams$History", "states", "[LShareStreams$Bench;", true)
  | 1 => ("ShareStreams$History", "oldest", "I", false)
  | _ => ("ShareStreams$History", "size", "I", false)
def tyX3 : Nat → FieldType := fun k => match k with
  | 0 => .array (.object "ShareStreams$Bench")
  | 1 => .int
  | _ => .int
abbrev wsX30 : List Cond := u_ws RX3 TX3 3
theorem nmX3 : ∀ a, a < 3 → ∀ b, b < 3 → a ≠ b → (TX3 a).2.1 ≠ (TX3 b).2.1 := by decide +kernel
theorem tyX3_ok : ∀ k, k < 3 → parseFieldDescriptor (TX3 k).2.2.1 = some (tyX3 k) := by decide +kernel
abbrev cX3_init : ByteArray := prog_5_method_1_code
def yX3_init : MethodName := ⟨RX3, "<init>", "()V"⟩
abbrev cX3_push : ByteArray := prog_5_method_2_code
def yX3_push : MethodName := ⟨RX3, "push", "(LShareStreams$Bench;)V"⟩
abbrev cX3_popInto : ByteArray := prog_5_method_3_code
def yX3_popInto : MethodName := ⟨RX3, "popInto", "(LShareStreams$Bench;)V"⟩
abbrev cX3_stateAt : ByteArray := prog_5_method_4_code
def yX3_stateAt : MethodName := ⟨RX3, "stateAt", "(I)LShareStreams$Bench;"⟩
def RX4 : String := "ShareStreams$Streams"
def TX4 : u_T := fun k => match k with
  | _ => ("ShareStreams$Streams", "rows", "[[J", true)
def tyX4 : Nat → FieldType := fun k => match k with
  | _ => .array (.array .long)
abbrev wsX40 : List Cond := u_ws RX4 TX4 1
theorem nmX4 : ∀ a, a < 1 → ∀ b, b < 1 → a ≠ b → (TX4 a).2.1 ≠ (TX4 b).2.1 := by decide +kernel
theorem tyX4_ok : ∀ k, k < 1 → parseFieldDescriptor (TX4 k).2.2.1 = some (tyX4 k) := by decide +kernel
abbrev cX4_init : ByteArray := prog_6_method_1_code
def yX4_init : MethodName := ⟨RX4, "<init>", "()V"⟩
abbrev cX4_fill : ByteArray := prog_6_method_2_code
def yX4_fill : MethodName := ⟨RX4, "fill", "(LShareStreams$Bench;II)V"⟩
abbrev cX4_refill : ByteArray := prog_6_method_3_code
def yX4_refill : MethodName := ⟨RX4, "refill", "(LShareStreams$Bench;III)V"⟩
abbrev cX4_fillRow : ByteArray := prog_6_method_4_code
def yX4_fillRow : MethodName := ⟨RX4, "fillRow", "(LShareStreams$Bench;II)V"⟩
abbrev cX4_fillSource : ByteArray := prog_6_method_5_code
def yX4_fillSource : MethodName := ⟨RX4, "fillSource", "(IIII)V"⟩
abbrev cX4_nextRegister : ByteArray := prog_6_method_6_code
def yX4_nextRegister : MethodName := ⟨RX4, "nextRegister", "(I)I"⟩
abbrev cX4_madeWord : ByteArray := prog_6_method_7_code
def yX4_madeWord : MethodName := ⟨RX4, "madeWord", "(LShareStreams$Bench;II)J"⟩
abbrev cX4_bitAt : ByteArray := prog_6_method_8_code
def yX4_bitAt : MethodName := ⟨RX4, "bitAt", "(II)I"⟩
abbrev cX4_onesIn : ByteArray := prog_6_method_9_code
def yX4_onesIn : MethodName := ⟨RX4, "onesIn", "(II)I"⟩
abbrev cX4_onesInBoth : ByteArray := prog_6_method_10_code
def yX4_onesInBoth : MethodName := ⟨RX4, "onesInBoth", "(III)I"⟩
abbrev cX4_wordAt : ByteArray := prog_6_method_11_code
def yX4_wordAt : MethodName := ⟨RX4, "wordAt", "(II)J"⟩
abbrev cX4_setWord : ByteArray := prog_6_method_12_code
def yX4_setWord : MethodName := ⟨RX4, "setWord", "(IIJ)V"⟩
def RX5 : String := "ShareStreams"
def TX5 : u_T := fun k => match k with
  | 0 => ("ShareStreams", "bench", "LShareStreams$Bench;", true)
  | 1 => ("ShareStreams", "snapshot", "LShareStreams$Bench;", true)
  | 2 => ("ShareStreams", "hasSnapshot", "Z", false)
  | 3 => ("ShareStreams", "spare", "LShareStreams$Bench;", true)
  | 4 => ("ShareStreams", "history", "LShareStreams$History;", true)
  | 5 => ("ShareStreams", "text", "LShareStreams$CircuitText;", true)
  | 6 => ("ShareStreams", "figures", "LShareStreams$Figures;", true)
  | _ => ("ShareStreams", "streams", "LShareStreams$Streams;", true)
def tyX5 : Nat → FieldType := fun k => match k with
  | 0 => .object "ShareStreams$Bench"
  | 1 => .object "ShareStreams$Bench"
  | 2 => .boolean
  | 3 => .object "ShareStreams$Bench"
  | 4 => .object "ShareStreams$History"
  | 5 => .object "ShareStreams$CircuitText"
  | 6 => .object "ShareStreams$Figures"
  | _ => .object "ShareStreams$Streams"
abbrev wsX50 : List Cond := u_ws RX5 TX5 8
theorem nmX5 : ∀ a, a < 8 → ∀ b, b < 8 → a ≠ b → (TX5 a).2.1 ≠ (TX5 b).2.1 := by decide +kernel
theorem tyX5_ok : ∀ k, k < 8 → parseFieldDescriptor (TX5 k).2.2.1 = some (tyX5 k) := by decide +kernel
abbrev cX5_init : ByteArray := prog_1_method_1_code
def yX5_init : MethodName := ⟨RX5, "<init>", "()V"⟩
abbrev cX5_source : ByteArray := prog_1_method_2_code
def yX5_source : MethodName := ⟨RX5, "source", "(II)I"⟩
abbrev cX5_gate : ByteArray := prog_1_method_3_code
def yX5_gate : MethodName := ⟨RX5, "gate", "(III)I"⟩
abbrev cX5_choose : ByteArray := prog_1_method_4_code
def yX5_choose : MethodName := ⟨RX5, "choose", "(III)I"⟩
abbrev cX5_turn : ByteArray := prog_1_method_5_code
def yX5_turn : MethodName := ⟨RX5, "turn", "(I)I"⟩
abbrev cX5_delay : ByteArray := prog_1_method_6_code
def yX5_delay : MethodName := ⟨RX5, "delay", "(II)I"⟩
abbrev cX5_reseed : ByteArray := prog_1_method_7_code
def yX5_reseed : MethodName := ⟨RX5, "reseed", "(III)I"⟩
abbrev cX5_removeLast : ByteArray := prog_1_method_8_code
def yX5_removeLast : MethodName := ⟨RX5, "removeLast", "()I"⟩
abbrev cX5_setLength : ByteArray := prog_1_method_9_code
def yX5_setLength : MethodName := ⟨RX5, "setLength", "(I)I"⟩
abbrev cX5_readCircuit : ByteArray := prog_1_method_10_code
def yX5_readCircuit : MethodName := ⟨RX5, "readCircuit", "()I"⟩
abbrev cX5_type : ByteArray := prog_1_method_11_code
def yX5_type : MethodName := ⟨RX5, "type", "(C)I"⟩
abbrev cX5_clearText : ByteArray := prog_1_method_12_code
def yX5_clearText : MethodName := ⟨RX5, "clearText", "()I"⟩
abbrev cX5_undo : ByteArray := prog_1_method_13_code
def yX5_undo : MethodName := ⟨RX5, "undo", "()I"⟩
abbrev cX5_keep : ByteArray := prog_1_method_14_code
def yX5_keep : MethodName := ⟨RX5, "keep", "()I"⟩
abbrev cX5_restore : ByteArray := prog_1_method_15_code
def yX5_restore : MethodName := ⟨RX5, "restore", "()I"⟩
abbrev cX5_line : ByteArray := prog_1_method_16_code
def yX5_line : MethodName := ⟨RX5, "line", "(II)I"⟩
abbrev cX5_bit : ByteArray := prog_1_method_17_code
def yX5_bit : MethodName := ⟨RX5, "bit", "(II)I"⟩
abbrev cX5_overlap : ByteArray := prog_1_method_18_code
def yX5_overlap : MethodName := ⟨RX5, "overlap", "(II)I"⟩
abbrev cX5_errorAt : ByteArray := prog_1_method_19_code
def yX5_errorAt : MethodName := ⟨RX5, "errorAt", "(II)I"⟩
abbrev cX5_settles : ByteArray := prog_1_method_20_code
def yX5_settles : MethodName := ⟨RX5, "settles", "(II)I"⟩
abbrev cX5_bestSeed : ByteArray := prog_1_method_21_code
def yX5_bestSeed : MethodName := ⟨RX5, "bestSeed", "(III)I"⟩
abbrev cX5_unlike : ByteArray := prog_1_method_22_code
def yX5_unlike : MethodName := ⟨RX5, "unlike", "(I)I"⟩
abbrev cX5_count : ByteArray := prog_1_method_23_code
def yX5_count : MethodName := ⟨RX5, "count", "(I)I"⟩
abbrev cX5_addLine : ByteArray := prog_1_method_24_code
def yX5_addLine : MethodName := ⟨RX5, "addLine", "(IIII)I"⟩
abbrev cX5_onesOver : ByteArray := prog_1_method_25_code
def yX5_onesOver : MethodName := ⟨RX5, "onesOver", "(II)I"⟩
abbrev cX5_errorOver : ByteArray := prog_1_method_26_code
def yX5_errorOver : MethodName := ⟨RX5, "errorOver", "(II)I"⟩
abbrev cX5_errorOfFilled : ByteArray := prog_1_method_27_code
def yX5_errorOfFilled : MethodName := ⟨RX5, "errorOfFilled", "(II)I"⟩
abbrev cX5_errorOfCount : ByteArray := prog_1_method_28_code
def yX5_errorOfCount : MethodName := ⟨RX5, "errorOfCount", "(III)I"⟩
abbrev cX5_lastLengthBeyond : ByteArray := prog_1_method_29_code
def yX5_lastLengthBeyond : MethodName := ⟨RX5, "lastLengthBeyond", "(II)I"⟩
abbrev cX5_errorWithSeed : ByteArray := prog_1_method_30_code
def yX5_errorWithSeed : MethodName := ⟨RX5, "errorWithSeed", "(III)I"⟩
abbrev cX5_sumOfErrors : ByteArray := prog_1_method_31_code
def yX5_sumOfErrors : MethodName := ⟨RX5, "sumOfErrors", "()I"⟩
abbrev cX5_lineWithGreatestError : ByteArray := prog_1_method_32_code
def yX5_lineWithGreatestError : MethodName := ⟨RX5, "lineWithGreatestError", "()I"⟩
abbrev cX5_fillAll : ByteArray := prog_1_method_33_code
def yX5_fillAll : MethodName := ⟨RX5, "fillAll", "()V"⟩
abbrev cX5_isMadeOfLinesAhead : ByteArray := prog_1_method_34_code
def yX5_isMadeOfLinesAhead : MethodName := ⟨RX5, "isMadeOfLinesAhead", "(LShareStreams$Bench;I)Z"⟩
abbrev cX5_shareOf : ByteArray := prog_1_method_35_code
def yX5_shareOf : MethodName := ⟨RX5, "shareOf", "(II)I"⟩
abbrev cX5_isShareAndSeed : ByteArray := prog_1_method_36_code
def yX5_isShareAndSeed : MethodName := ⟨RX5, "isShareAndSeed", "(II)Z"⟩
abbrev cX5_isWithin : ByteArray := prog_1_method_37_code
def yX5_isWithin : MethodName := ⟨RX5, "isWithin", "(III)Z"⟩
abbrev cX5_numbersOfKind : ByteArray := prog_1_method_38_code
def yX5_numbersOfKind : MethodName := ⟨RX5, "numbersOfKind", "(I)I"⟩
abbrev cX5_linesOfKind : ByteArray := prog_1_method_39_code
def yX5_linesOfKind : MethodName := ⟨RX5, "linesOfKind", "(I)I"⟩
abbrev cX5_elementAt : ByteArray := prog_1_method_40_code
def yX5_elementAt : MethodName := ⟨RX5, "elementAt", "([II)I"⟩
abbrev cX5_setElement : ByteArray := prog_1_method_41_code
def yX5_setElement : MethodName := ⟨RX5, "setElement", "([III)V"⟩
def RX6 : String := "ShareStreamsModel"
def TX6 : u_T := fun k => match k with
  | 0 => ("ShareStreamsModel", "all", "[I", true)
  | 1 => ("ShareStreamsModel", "kept", "[I", true)
  | 2 => ("ShareStreamsModel", "history", "[I", true)
  | 3 => ("ShareStreamsModel", "historyLong", "I", false)
  | 4 => ("ShareStreamsModel", "snapshot", "[I", true)
  | 5 => ("ShareStreamsModel", "isTaken", "I", false)
  | 6 => ("ShareStreamsModel", "words", "[J", true)
  | 7 => ("ShareStreamsModel", "bits", "[I", true)
  | 8 => ("ShareStreamsModel", "register", "[I", true)
  | 9 => ("ShareStreamsModel", "exact", "[I", true)
  | 10 => ("ShareStreamsModel", "text", "[I", true)
  | 11 => ("ShareStreamsModel", "textLong", "I", false)
  | 12 => ("ShareStreamsModel", "spot", "I", false)
  | 13 => ("ShareStreamsModel", "read", "[I", true)
  | 14 => ("ShareStreamsModel", "readMany", "I", false)
  | 15 => ("ShareStreamsModel", "number", "I", false)
  | 16 => ("ShareStreamsModel", "deep", "[I", true)
  | _ => ("ShareStreamsModel", "sources", "[I", true)
def tyX6 : Nat → FieldType := fun k => match k with
  | 0 => .array .int
  | 1 => .array .int
  | 2 => .array .int
  | 3 => .int
  | 4 => .array .int
  | 5 => .int
  | 6 => .array .long
  | 7 => .array .int
  | 8 => .array .int
  | 9 => .array .int
  | 10 => .array .int
  | 11 => .int
  | 12 => .int
  | 13 => .array .int
  | 14 => .int
  | 15 => .int
  | 16 => .array .int
  | _ => .array .int
abbrev wsX60 : List Cond := u_ws RX6 TX6 18
theorem nmX6 : ∀ a, a < 18 → ∀ b, b < 18 → a ≠ b → (TX6 a).2.1 ≠ (TX6 b).2.1 := by decide +kernel
theorem tyX6_ok : ∀ k, k < 18 → parseFieldDescriptor (TX6 k).2.2.1 = some (tyX6 k) := by decide +kernel
abbrev cX6_init : ByteArray := prog_8_method_1_code
def yX6_init : MethodName := ⟨RX6, "<init>", "()V"⟩
abbrev cX6_in : ByteArray := prog_8_method_3_code
def yX6_in : MethodName := ⟨RX6, "in", "(JJJ)Z"⟩
abbrev cX6_remember : ByteArray := prog_8_method_4_code
def yX6_remember : MethodName := ⟨RX6, "remember", "()V"⟩
abbrev cX6_acted : ByteArray := prog_8_method_5_code
def yX6_acted : MethodName := ⟨RX6, "acted", "(I)I"⟩
abbrev cX6_isLine : ByteArray := prog_8_method_6_code
def yX6_isLine : MethodName := ⟨RX6, "isLine", "(I)Z"⟩
abbrev cX6_of : ByteArray := prog_8_method_7_code
def yX6_of : MethodName := ⟨RX6, "of", "(II)I"⟩
abbrev cX6_linesBy : ByteArray := prog_8_method_8_code
def yX6_linesBy : MethodName := ⟨RX6, "linesBy", "(I)I"⟩
abbrev cX6_puts : ByteArray := prog_8_method_9_code
def yX6_puts : MethodName := ⟨RX6, "puts", "(IIII)V"⟩
abbrev cX6_adds : ByteArray := prog_8_method_10_code
def yX6_adds : MethodName := ⟨RX6, "adds", "(IIII)I"⟩
abbrev cX6_source : ByteArray := prog_8_method_11_code
def yX6_source : MethodName := ⟨RX6, "source", "(II)I"⟩
abbrev cX6_gate : ByteArray := prog_8_method_12_code
def yX6_gate : MethodName := ⟨RX6, "gate", "(III)I"⟩
abbrev cX6_choose : ByteArray := prog_8_method_13_code
def yX6_choose : MethodName := ⟨RX6, "choose", "(III)I"⟩
abbrev cX6_turn : ByteArray := prog_8_method_14_code
def yX6_turn : MethodName := ⟨RX6, "turn", "(I)I"⟩
abbrev cX6_delay : ByteArray := prog_8_method_15_code
def yX6_delay : MethodName := ⟨RX6, "delay", "(II)I"⟩
abbrev cX6_reseed : ByteArray := prog_8_method_16_code
def yX6_reseed : MethodName := ⟨RX6, "reseed", "(III)I"⟩
abbrev cX6_removeLast : ByteArray := prog_8_method_17_code
def yX6_removeLast : MethodName := ⟨RX6, "removeLast", "()I"⟩
abbrev cX6_setLength : ByteArray := prog_8_method_18_code
def yX6_setLength : MethodName := ⟨RX6, "setLength", "(I)I"⟩
abbrev cX6_bitAt : ByteArray := prog_8_method_19_code
def yX6_bitAt : MethodName := ⟨RX6, "bitAt", "(II)I"⟩
abbrev cX6_goesOn : ByteArray := prog_8_method_20_code
def yX6_goesOn : MethodName := ⟨RX6, "goesOn", "(I)I"⟩
abbrev cX6_bitOf : ByteArray := prog_8_method_21_code
def yX6_bitOf : MethodName := ⟨RX6, "bitOf", "(II)I"⟩
abbrev cX6_lays : ByteArray := prog_8_method_22_code
def yX6_lays : MethodName := ⟨RX6, "lays", "(II)V"⟩
abbrev cX6_countOf : ByteArray := prog_8_method_23_code
def yX6_countOf : MethodName := ⟨RX6, "countOf", "(II)I"⟩
abbrev cX6_findsExact : ByteArray := prog_8_method_24_code
def yX6_findsExact : MethodName := ⟨RX6, "findsExact", "(I)V"⟩
abbrev cX6_apart : ByteArray := prog_8_method_25_code
def yX6_apart : MethodName := ⟨RX6, "apart", "(II)I"⟩
abbrev cX6_errorBy : ByteArray := prog_8_method_26_code
def yX6_errorBy : MethodName := ⟨RX6, "errorBy", "(III)I"⟩
abbrev cX6_errorOf : ByteArray := prog_8_method_27_code
def yX6_errorOf : MethodName := ⟨RX6, "errorOf", "(II)I"⟩
abbrev cX6_type : ByteArray := prog_8_method_28_code
def yX6_type : MethodName := ⟨RX6, "type", "(C)I"⟩
abbrev cX6_clearText : ByteArray := prog_8_method_29_code
def yX6_clearText : MethodName := ⟨RX6, "clearText", "()I"⟩
abbrev cX6_sizeOf : ByteArray := prog_8_method_30_code
def yX6_sizeOf : MethodName := ⟨RX6, "sizeOf", "(J)I"⟩
abbrev cX6_likeness : ByteArray := prog_8_method_31_code
def yX6_likeness : MethodName := ⟨RX6, "likeness", "(J)I"⟩
abbrev cX6_readsWord : ByteArray := prog_8_method_32_code
def yX6_readsWord : MethodName := ⟨RX6, "readsWord", "()I"⟩
abbrev cX6_isHere : ByteArray := prog_8_method_33_code
def yX6_isHere : MethodName := ⟨RX6, "isHere", "(II)Z"⟩
abbrev cX6_takes : ByteArray := prog_8_method_34_code
def yX6_takes : MethodName := ⟨RX6, "takes", "(I)Z"⟩
abbrev cX6_readsNumber : ByteArray := prog_8_method_35_code
def yX6_readsNumber : MethodName := ⟨RX6, "readsNumber", "(II)Z"⟩
abbrev cX6_readsPart : ByteArray := prog_8_method_36_code
def yX6_readsPart : MethodName := ⟨RX6, "readsPart", "(II)Z"⟩
abbrev cX6_readsLine : ByteArray := prog_8_method_37_code
def yX6_readsLine : MethodName := ⟨RX6, "readsLine", "()Z"⟩
abbrev cX6_fault : ByteArray := prog_8_method_38_code
def yX6_fault : MethodName := ⟨RX6, "fault", "()I"⟩
abbrev cX6_isAhead : ByteArray := prog_8_method_39_code
def yX6_isAhead : MethodName := ⟨RX6, "isAhead", "(I)Z"⟩
abbrev cX6_readCircuit : ByteArray := prog_8_method_40_code
def yX6_readCircuit : MethodName := ⟨RX6, "readCircuit", "()I"⟩
abbrev cX6_undo : ByteArray := prog_8_method_41_code
def yX6_undo : MethodName := ⟨RX6, "undo", "()I"⟩
abbrev cX6_keep : ByteArray := prog_8_method_42_code
def yX6_keep : MethodName := ⟨RX6, "keep", "()I"⟩
abbrev cX6_restore : ByteArray := prog_8_method_43_code
def yX6_restore : MethodName := ⟨RX6, "restore", "()I"⟩
abbrev cX6_findsDepths : ByteArray := prog_8_method_44_code
def yX6_findsDepths : MethodName := ⟨RX6, "findsDepths", "()V"⟩
abbrev cX6_bitsOf : ByteArray := prog_8_method_45_code
def yX6_bitsOf : MethodName := ⟨RX6, "bitsOf", "(I)I"⟩
abbrev cX6_line : ByteArray := prog_8_method_46_code
def yX6_line : MethodName := ⟨RX6, "line", "(II)I"⟩
abbrev cX6_bit : ByteArray := prog_8_method_47_code
def yX6_bit : MethodName := ⟨RX6, "bit", "(II)I"⟩
abbrev cX6_overlap : ByteArray := prog_8_method_48_code
def yX6_overlap : MethodName := ⟨RX6, "overlap", "(II)I"⟩
abbrev cX6_errorAt : ByteArray := prog_8_method_49_code
def yX6_errorAt : MethodName := ⟨RX6, "errorAt", "(II)I"⟩
abbrev cX6_settles : ByteArray := prog_8_method_50_code
def yX6_settles : MethodName := ⟨RX6, "settles", "(II)I"⟩
abbrev cX6_bestSeed : ByteArray := prog_8_method_51_code
def yX6_bestSeed : MethodName := ⟨RX6, "bestSeed", "(III)I"⟩
abbrev cX6_unlike : ByteArray := prog_8_method_52_code
def yX6_unlike : MethodName := ⟨RX6, "unlike", "(I)I"⟩
abbrev cX6_manySources : ByteArray := prog_8_method_53_code
def yX6_manySources : MethodName := ⟨RX6, "manySources", "()I"⟩
abbrev cX6_errors : ByteArray := prog_8_method_54_code
def yX6_errors : MethodName := ⟨RX6, "errors", "()I"⟩
abbrev cX6_worst : ByteArray := prog_8_method_55_code
def yX6_worst : MethodName := ⟨RX6, "worst", "()I"⟩
abbrev cX6_deepest : ByteArray := prog_8_method_56_code
def yX6_deepest : MethodName := ⟨RX6, "deepest", "()I"⟩
abbrev cX6_count : ByteArray := prog_8_method_57_code
def yX6_count : MethodName := ⟨RX6, "count", "(I)I"⟩
def RJ6 : String := "java/lang/Integer"
def TJ6 : u_T := fun k => match k with
  | _ => ("", "", "", false)
def tyJ6 : Nat → FieldType := fun k => match k with
  | _ => .int
abbrev wsJ60 : List Cond := u_ws RJ6 TJ6 0
theorem nmJ6 : ∀ a, a < 0 → ∀ b, b < 0 → a ≠ b → (TJ6 a).2.1 ≠ (TJ6 b).2.1 := by decide +kernel
theorem tyJ6_ok : ∀ k, k < 0 → parseFieldDescriptor (TJ6 k).2.2.1 = some (tyJ6 k) := by decide +kernel
abbrev cJ6_bitCount_0f7a4 : ByteArray := prog_9_method_49_code
def yJ6_bitCount_0f7a4 : MethodName := ⟨RJ6, "bitCount", "(I)I"⟩
def RJ13 : String := "java/lang/Long"
def TJ13 : u_T := fun k => match k with
  | _ => ("", "", "", false)
def tyJ13 : Nat → FieldType := fun k => match k with
  | _ => .int
abbrev wsJ130 : List Cond := u_ws RJ13 TJ13 0
theorem nmJ13 : ∀ a, a < 0 → ∀ b, b < 0 → a ≠ b → (TJ13 a).2.1 ≠ (TJ13 b).2.1 := by decide +kernel
theorem tyJ13_ok : ∀ k, k < 0 → parseFieldDescriptor (TJ13 k).2.2.1 = some (tyJ13 k) := by decide +kernel
abbrev cJ13_bitCount_95d88 : ByteArray := prog_10_method_50_code
def yJ13_bitCount_95d88 : MethodName := ⟨RJ13, "bitCount", "(J)I"⟩
def RJ9 : String := "java/lang/Math"
def TJ9 : u_T := fun k => match k with
  | _ => ("", "", "", false)
def tyJ9 : Nat → FieldType := fun k => match k with
  | _ => .int
abbrev wsJ90 : List Cond := u_ws RJ9 TJ9 0
theorem nmJ9 : ∀ a, a < 0 → ∀ b, b < 0 → a ≠ b → (TJ9 a).2.1 ≠ (TJ9 b).2.1 := by decide +kernel
theorem tyJ9_ok : ∀ k, k < 0 → parseFieldDescriptor (TJ9 k).2.2.1 = some (tyJ9 k) := by decide +kernel
abbrev cJ9_floorMod_7cf53 : ByteArray := prog_11_method_50_code
def yJ9_floorMod_7cf53 : MethodName := ⟨RJ9, "floorMod", "(II)I"⟩
abbrev cJ9_abs_0f7a4 : ByteArray := prog_11_method_59_code
def yJ9_abs_0f7a4 : MethodName := ⟨RJ9, "abs", "(I)I"⟩
abbrev cJ9_max_7cf53 : ByteArray := prog_11_method_65_code
def yJ9_max_7cf53 : MethodName := ⟨RJ9, "max", "(II)I"⟩
def RJ0 : String := "java/lang/String"
def TJ0 : u_T := fun k => match k with
  | _ => ("", "", "", false)
def tyJ0 : Nat → FieldType := fun k => match k with
  | _ => .int
abbrev wsJ00 : List Cond := u_ws RJ0 TJ0 0
theorem nmJ0 : ∀ a, a < 0 → ∀ b, b < 0 → a ≠ b → (TJ0 a).2.1 ≠ (TJ0 b).2.1 := by decide +kernel
theorem tyJ0_ok : ∀ k, k < 0 → parseFieldDescriptor (TJ0 k).2.2.1 = some (tyJ0 k) := by decide +kernel
abbrev cJ0_length_8abf5 : ByteArray := prog_12_method_54_code
def yJ0_length_8abf5 : MethodName := ⟨RJ0, "length", "()I"⟩
abbrev cJ0_isEmpty_aae02 : ByteArray := prog_12_method_55_code
def yJ0_isEmpty_aae02 : MethodName := ⟨RJ0, "isEmpty", "()Z"⟩
abbrev cJ0_charAt_5068e : ByteArray := prog_12_method_56_code
def yJ0_charAt_5068e : MethodName := ⟨RJ0, "charAt", "(I)C"⟩
abbrev cJ0_coder_7d493 : ByteArray := prog_12_method_152_code
def yJ0_coder_7d493 : MethodName := ⟨RJ0, "coder", "()B"⟩
abbrev cJ0_isLatin1_aae02 : ByteArray := prog_12_method_154_code
def yJ0_isLatin1_aae02 : MethodName := ⟨RJ0, "isLatin1", "()Z"⟩
abbrev cJ0_checkIndex_df160 : ByteArray := prog_12_method_155_code
def yJ0_checkIndex_df160 : MethodName := ⟨RJ0, "checkIndex", "(II)V"⟩
def RJ1 : String := "java/lang/StringLatin1"
def TJ1 : u_T := fun k => match k with
  | _ => ("", "", "", false)
def tyJ1 : Nat → FieldType := fun k => match k with
  | _ => .int
abbrev wsJ10 : List Cond := u_ws RJ1 TJ1 0
theorem nmJ1 : ∀ a, a < 0 → ∀ b, b < 0 → a ≠ b → (TJ1 a).2.1 ≠ (TJ1 b).2.1 := by decide +kernel
theorem tyJ1_ok : ∀ k, k < 0 → parseFieldDescriptor (TJ1 k).2.2.1 = some (tyJ1 k) := by decide +kernel
abbrev cJ1_charAt_3b067 : ByteArray := prog_13_method_2_code
def yJ1_charAt_3b067 : MethodName := ⟨RJ1, "charAt", "([BI)C"⟩
def RJ2 : String := "java/lang/StringUTF16"
def TJ2 : u_T := fun k => match k with
  | _ => ("", "", "", false)
def tyJ2 : Nat → FieldType := fun k => match k with
  | _ => .int
abbrev wsJ20 : List Cond := u_ws RJ2 TJ2 0
theorem nmJ2 : ∀ a, a < 0 → ∀ b, b < 0 → a ≠ b → (TJ2 a).2.1 ≠ (TJ2 b).2.1 := by decide +kernel
theorem tyJ2_ok : ∀ k, k < 0 → parseFieldDescriptor (TJ2 k).2.2.1 = some (tyJ2 k) := by decide +kernel
abbrev cJ2_getChar_3b067 : ByteArray := prog_14_method_5_code
def yJ2_getChar_3b067 : MethodName := ⟨RJ2, "getChar", "([BI)C"⟩
abbrev cJ2_length_9d52b : ByteArray := prog_14_method_6_code
def yJ2_length_9d52b : MethodName := ⟨RJ2, "length", "([B)I"⟩
abbrev cJ2_charAt_3b067 : ByteArray := prog_14_method_83_code
def yJ2_charAt_3b067 : MethodName := ⟨RJ2, "charAt", "([BI)C"⟩
abbrev cJ2_checkIndex_2214a : ByteArray := prog_14_method_91_code
def yJ2_checkIndex_2214a : MethodName := ⟨RJ2, "checkIndex", "(I[B)V"⟩
def RJ3 : String := "jdk/internal/util/Preconditions"
def TJ3 : u_T := fun k => match k with
  | _ => ("", "", "", false)
def tyJ3 : Nat → FieldType := fun k => match k with
  | _ => .int
abbrev wsJ30 : List Cond := u_ws RJ3 TJ3 0
theorem nmJ3 : ∀ a, a < 0 → ∀ b, b < 0 → a ≠ b → (TJ3 a).2.1 ≠ (TJ3 b).2.1 := by decide +kernel
theorem tyJ3_ok : ∀ k, k < 0 → parseFieldDescriptor (TJ3 k).2.2.1 = some (tyJ3 k) := by decide +kernel
abbrev cJ3_checkIndex_8e157 : ByteArray := prog_15_method_11_code
def yJ3_checkIndex_8e157 : MethodName := ⟨RJ3, "checkIndex", "(IILjava/util/function/BiFunction;)I"⟩
def RL : String := "ShareStreamsLaw"
abbrev cL_law : ByteArray := code
def yL_law : MethodName := ⟨RL, "law", "([I)Z"⟩
set_option maxRecDepth 20000 in
abbrev vwCl : List vw_C := [(RX0, TX0, 4), (RX1, TX1, 3), (RX2, TX2, 3), (RX3, TX3, 3), (RX4, TX4, 1), (RX5, TX5, 8), (RX6, TX6, 18)]
/-- the words that a call carries on -/
def gW : List Cond := lw_tbl.filter goodWord
theorem gW_tbl {w : Cond} (h : w ∈ gW) : w ∈ lw_tbl := (List.mem_filter.mp h).1
theorem gW_good : ∀ w ∈ gW, goodWord w = true := fun _ h => (List.mem_filter.mp h).2
theorem gW_of {w : Cond} (h : w ∈ lw_tbl) (hg : goodWord w = true) : w ∈ gW := List.mem_filter.mpr ⟨h, hg⟩
theorem gW_t {w : Cond} (h : w ∈ tables_1) (hg : goodWord w = true) : w ∈ gW := gW_of (List.mem_append_right _ h) hg
theorem gW_all {ws : List Cond} (h : ∀ w ∈ ws, w ∈ tables_1 ∧ goodWord w = true) : ∀ w ∈ ws, w ∈ gW := fun w hw => gW_t (h w hw).1 (h w hw).2
theorem inlX0 : ∀ w ∈ wsX00, w ∈ gW := gW_all (by decide +kernel)
theorem inlX1 : ∀ w ∈ wsX10, w ∈ gW := gW_all (by decide +kernel)
theorem inlX2 : ∀ w ∈ wsX20, w ∈ gW := gW_all (by decide +kernel)
theorem inlX3 : ∀ w ∈ wsX30, w ∈ gW := gW_all (by decide +kernel)
theorem inlX4 : ∀ w ∈ wsX40, w ∈ gW := gW_all (by decide +kernel)
theorem inlX5 : ∀ w ∈ wsX50, w ∈ gW := gW_all (by decide +kernel)
theorem inlX6 : ∀ w ∈ wsX60, w ∈ gW := gW_all (by decide +kernel)
end
section
theorem dX0_init_0 : decode cX0_init 0 = .ok (.aload_n 0, 1) := by decide +kernel
theorem dX0_init_1 : decode cX0_init 1 = .ok (.invokespecial 3, 3) := by decide +kernel
theorem dX0_init_4 : decode cX0_init 4 = .ok (.aload_n 0, 1) := by decide +kernel
theorem dX0_init_5 : decode cX0_init 5 = .ok (.sipush 256, 3) := by decide +kernel
theorem dX0_init_8 : decode cX0_init 8 = .ok (.putfield 9, 3) := by decide +kernel
theorem dX0_init_11 : decode cX0_init 11 = .ok (.aload_n 0, 1) := by decide +kernel
theorem dX0_init_12 : decode cX0_init 12 = .ok (.iconst 0, 1) := by decide +kernel
theorem dX0_init_13 : decode cX0_init 13 = .ok (.putfield 15, 3) := by decide +kernel
theorem dX0_init_16 : decode cX0_init 16 = .ok (.aload_n 0, 1) := by decide +kernel
theorem dX0_init_17 : decode cX0_init 17 = .ok (.bipush 16, 2) := by decide +kernel
theorem dX0_init_19 : decode cX0_init 19 = .ok (.newarray .int, 2) := by decide +kernel
theorem dX0_init_21 : decode cX0_init 21 = .ok (.putfield 18, 3) := by decide +kernel
theorem dX0_init_24 : decode cX0_init 24 = .ok (.aload_n 0, 1) := by decide +kernel
theorem dX0_init_25 : decode cX0_init 25 = .ok (.bipush 48, 2) := by decide +kernel
theorem dX0_init_27 : decode cX0_init 27 = .ok (.newarray .int, 2) := by decide +kernel
theorem dX0_init_29 : decode cX0_init 29 = .ok (.putfield 22, 3) := by decide +kernel
theorem dX0_init_32 : decode cX0_init 32 = .ok (.return_, 1) := by decide +kernel
theorem dX0_has_0 : decode cX0_has 0 = .ok (.iload_n 1, 1) := by decide +kernel
theorem dX0_has_1 : decode cX0_has 1 = .ok (.ifCond .lt 15, 3) := by decide +kernel
theorem dX0_has_4 : decode cX0_has 4 = .ok (.iload_n 1, 1) := by decide +kernel
theorem dX0_has_5 : decode cX0_has 5 = .ok (.aload_n 0, 1) := by decide +kernel
theorem dX0_has_6 : decode cX0_has 6 = .ok (.getfield 15, 3) := by decide +kernel
theorem dX0_has_9 : decode cX0_has 9 = .ok (.if_icmp .ge 7, 3) := by decide +kernel
theorem dX0_has_12 : decode cX0_has 12 = .ok (.iconst 1, 1) := by decide +kernel
theorem dX0_has_13 : decode cX0_has 13 = .ok (.goto 4, 3) := by decide +kernel
theorem dX0_has_16 : decode cX0_has 16 = .ok (.iconst 0, 1) := by decide +kernel
theorem dX0_has_17 : decode cX0_has 17 = .ok (.ireturn, 1) := by decide +kernel
theorem dX0_kindOf_0 : decode cX0_kindOf 0 = .ok (.aload_n 0, 1) := by decide +kernel
theorem dX0_kindOf_1 : decode cX0_kindOf 1 = .ok (.getfield 18, 3) := by decide +kernel
theorem dX0_kindOf_4 : decode cX0_kindOf 4 = .ok (.iload_n 1, 1) := by decide +kernel
theorem dX0_kindOf_5 : decode cX0_kindOf 5 = .ok (.invokestatic 25, 3) := by decide +kernel
theorem dX0_kindOf_8 : decode cX0_kindOf 8 = .ok (.ireturn, 1) := by decide +kernel
theorem dX0_numberOf_0 : decode cX0_numberOf 0 = .ok (.aload_n 0, 1) := by decide +kernel
theorem dX0_numberOf_1 : decode cX0_numberOf 1 = .ok (.getfield 22, 3) := by decide +kernel
theorem dX0_numberOf_4 : decode cX0_numberOf 4 = .ok (.iload_n 1, 1) := by decide +kernel
theorem dX0_numberOf_5 : decode cX0_numberOf 5 = .ok (.iconst 3, 1) := by decide +kernel
theorem dX0_numberOf_6 : decode cX0_numberOf 6 = .ok (.imul, 1) := by decide +kernel
theorem dX0_numberOf_7 : decode cX0_numberOf 7 = .ok (.iload_n 2, 1) := by decide +kernel
theorem dX0_numberOf_8 : decode cX0_numberOf 8 = .ok (.iadd, 1) := by decide +kernel
theorem dX0_numberOf_9 : decode cX0_numberOf 9 = .ok (.iconst 1, 1) := by decide +kernel
theorem dX0_numberOf_10 : decode cX0_numberOf 10 = .ok (.isub, 1) := by decide +kernel
theorem dX0_numberOf_11 : decode cX0_numberOf 11 = .ok (.invokestatic 25, 3) := by decide +kernel
theorem dX0_numberOf_14 : decode cX0_numberOf 14 = .ok (.ireturn, 1) := by decide +kernel
theorem dX0_setNumber_0 : decode cX0_setNumber 0 = .ok (.aload_n 0, 1) := by decide +kernel
theorem dX0_setNumber_1 : decode cX0_setNumber 1 = .ok (.getfield 22, 3) := by decide +kernel
theorem dX0_setNumber_4 : decode cX0_setNumber 4 = .ok (.iload_n 1, 1) := by decide +kernel
theorem dX0_setNumber_5 : decode cX0_setNumber 5 = .ok (.iconst 3, 1) := by decide +kernel
theorem dX0_setNumber_6 : decode cX0_setNumber 6 = .ok (.imul, 1) := by decide +kernel
theorem dX0_setNumber_7 : decode cX0_setNumber 7 = .ok (.iload_n 2, 1) := by decide +kernel
theorem dX0_setNumber_8 : decode cX0_setNumber 8 = .ok (.iadd, 1) := by decide +kernel
theorem dX0_setNumber_9 : decode cX0_setNumber 9 = .ok (.iconst 1, 1) := by decide +kernel
theorem dX0_setNumber_10 : decode cX0_setNumber 10 = .ok (.isub, 1) := by decide +kernel
theorem dX0_setNumber_11 : decode cX0_setNumber 11 = .ok (.iload_n 3, 1) := by decide +kernel
theorem dX0_setNumber_12 : decode cX0_setNumber 12 = .ok (.invokestatic 29, 3) := by decide +kernel
theorem dX0_setNumber_15 : decode cX0_setNumber 15 = .ok (.return_, 1) := by decide +kernel
theorem dX0_sources_0 : decode cX0_sources 0 = .ok (.iconst 0, 1) := by decide +kernel
theorem dX0_sources_1 : decode cX0_sources 1 = .ok (.istore_n 1, 1) := by decide +kernel
theorem dX0_sources_2 : decode cX0_sources 2 = .ok (.iconst 0, 1) := by decide +kernel
theorem dX0_sources_3 : decode cX0_sources 3 = .ok (.istore_n 2, 1) := by decide +kernel
theorem dX0_sources_4 : decode cX0_sources 4 = .ok (.iload_n 2, 1) := by decide +kernel
theorem dX0_sources_5 : decode cX0_sources 5 = .ok (.aload_n 0, 1) := by decide +kernel
theorem dX0_sources_6 : decode cX0_sources 6 = .ok (.getfield 15, 3) := by decide +kernel
theorem dX0_sources_9 : decode cX0_sources 9 = .ok (.if_icmp .ge 20, 3) := by decide +kernel
theorem dX0_sources_12 : decode cX0_sources 12 = .ok (.aload_n 0, 1) := by decide +kernel
theorem dX0_sources_13 : decode cX0_sources 13 = .ok (.iload_n 2, 1) := by decide +kernel
theorem dX0_sources_14 : decode cX0_sources 14 = .ok (.invokevirtual 33, 3) := by decide +kernel
theorem dX0_sources_17 : decode cX0_sources 17 = .ok (.ifCond .ne 6, 3) := by decide +kernel
theorem dX0_sources_20 : decode cX0_sources 20 = .ok (.iinc 1 1, 3) := by decide +kernel
theorem dX0_sources_23 : decode cX0_sources 23 = .ok (.iinc 2 1, 3) := by decide +kernel
theorem dX0_sources_26 : decode cX0_sources 26 = .ok (.goto (-22), 3) := by decide +kernel
theorem dX0_sources_29 : decode cX0_sources 29 = .ok (.iload_n 1, 1) := by decide +kernel
theorem dX0_sources_30 : decode cX0_sources 30 = .ok (.ireturn, 1) := by decide +kernel
theorem dX0_add_0 : decode cX0_add 0 = .ok (.aload_n 0, 1) := by decide +kernel
theorem dX0_add_1 : decode cX0_add 1 = .ok (.getfield 15, 3) := by decide +kernel
theorem dX0_add_4 : decode cX0_add 4 = .ok (.bipush 16, 2) := by decide +kernel
theorem dX0_add_6 : decode cX0_add 6 = .ok (.if_icmp .lt 4, 3) := by decide +kernel
theorem dX0_add_9 : decode cX0_add 9 = .ok (.return_, 1) := by decide +kernel
theorem dX0_add_10 : decode cX0_add 10 = .ok (.aload_n 0, 1) := by decide +kernel
theorem dX0_add_11 : decode cX0_add 11 = .ok (.getfield 18, 3) := by decide +kernel
theorem dX0_add_14 : decode cX0_add 14 = .ok (.aload_n 0, 1) := by decide +kernel
theorem dX0_add_15 : decode cX0_add 15 = .ok (.getfield 15, 3) := by decide +kernel
theorem dX0_add_18 : decode cX0_add 18 = .ok (.iload_n 1, 1) := by decide +kernel
theorem dX0_add_19 : decode cX0_add 19 = .ok (.invokestatic 29, 3) := by decide +kernel
theorem dX0_add_22 : decode cX0_add 22 = .ok (.aload_n 0, 1) := by decide +kernel
theorem dX0_add_23 : decode cX0_add 23 = .ok (.aload_n 0, 1) := by decide +kernel
theorem dX0_add_24 : decode cX0_add 24 = .ok (.getfield 15, 3) := by decide +kernel
theorem dX0_add_27 : decode cX0_add 27 = .ok (.iconst 1, 1) := by decide +kernel
theorem dX0_add_28 : decode cX0_add 28 = .ok (.iload_n 2, 1) := by decide +kernel
theorem dX0_add_29 : decode cX0_add 29 = .ok (.invokevirtual 37, 3) := by decide +kernel
theorem dX0_add_32 : decode cX0_add 32 = .ok (.aload_n 0, 1) := by decide +kernel
theorem dX0_add_33 : decode cX0_add 33 = .ok (.aload_n 0, 1) := by decide +kernel
theorem dX0_add_34 : decode cX0_add 34 = .ok (.getfield 15, 3) := by decide +kernel
theorem dX0_add_37 : decode cX0_add 37 = .ok (.iconst 2, 1) := by decide +kernel
theorem dX0_add_38 : decode cX0_add 38 = .ok (.iload_n 3, 1) := by decide +kernel
theorem dX0_add_39 : decode cX0_add 39 = .ok (.invokevirtual 37, 3) := by decide +kernel
theorem dX0_add_42 : decode cX0_add 42 = .ok (.aload_n 0, 1) := by decide +kernel
theorem dX0_add_43 : decode cX0_add 43 = .ok (.aload_n 0, 1) := by decide +kernel
theorem dX0_add_44 : decode cX0_add 44 = .ok (.getfield 15, 3) := by decide +kernel
theorem dX0_add_47 : decode cX0_add 47 = .ok (.iconst 3, 1) := by decide +kernel
theorem dX0_add_48 : decode cX0_add 48 = .ok (.iload 4, 2) := by decide +kernel
theorem dX0_add_50 : decode cX0_add 50 = .ok (.invokevirtual 37, 3) := by decide +kernel
theorem dX0_add_53 : decode cX0_add 53 = .ok (.aload_n 0, 1) := by decide +kernel
theorem dX0_add_54 : decode cX0_add 54 = .ok (.dup, 1) := by decide +kernel
theorem dX0_add_55 : decode cX0_add 55 = .ok (.getfield 15, 3) := by decide +kernel
theorem dX0_add_58 : decode cX0_add 58 = .ok (.iconst 1, 1) := by decide +kernel
theorem dX0_add_59 : decode cX0_add 59 = .ok (.iadd, 1) := by decide +kernel
theorem dX0_add_60 : decode cX0_add 60 = .ok (.putfield 15, 3) := by decide +kernel
theorem dX0_add_63 : decode cX0_add 63 = .ok (.return_, 1) := by decide +kernel
theorem dX0_addAll_0 : decode cX0_addAll 0 = .ok (.iconst 0, 1) := by decide +kernel
theorem dX0_addAll_1 : decode cX0_addAll 1 = .ok (.istore_n 2, 1) := by decide +kernel
theorem dX0_addAll_2 : decode cX0_addAll 2 = .ok (.iload_n 2, 1) := by decide +kernel
theorem dX0_addAll_3 : decode cX0_addAll 3 = .ok (.aload_n 1, 1) := by decide +kernel
theorem dX0_addAll_4 : decode cX0_addAll 4 = .ok (.getfield 15, 3) := by decide +kernel
theorem dX0_addAll_7 : decode cX0_addAll 7 = .ok (.if_icmp .ge 36, 3) := by decide +kernel
theorem dX0_addAll_10 : decode cX0_addAll 10 = .ok (.aload_n 0, 1) := by decide +kernel
theorem dX0_addAll_11 : decode cX0_addAll 11 = .ok (.aload_n 1, 1) := by decide +kernel
theorem dX0_addAll_12 : decode cX0_addAll 12 = .ok (.iload_n 2, 1) := by decide +kernel
theorem dX0_addAll_13 : decode cX0_addAll 13 = .ok (.invokevirtual 33, 3) := by decide +kernel
theorem dX0_addAll_16 : decode cX0_addAll 16 = .ok (.aload_n 1, 1) := by decide +kernel
theorem dX0_addAll_17 : decode cX0_addAll 17 = .ok (.iload_n 2, 1) := by decide +kernel
theorem dX0_addAll_18 : decode cX0_addAll 18 = .ok (.iconst 1, 1) := by decide +kernel
theorem dX0_addAll_19 : decode cX0_addAll 19 = .ok (.invokevirtual 41, 3) := by decide +kernel
theorem dX0_addAll_22 : decode cX0_addAll 22 = .ok (.aload_n 1, 1) := by decide +kernel
theorem dX0_addAll_23 : decode cX0_addAll 23 = .ok (.iload_n 2, 1) := by decide +kernel
theorem dX0_addAll_24 : decode cX0_addAll 24 = .ok (.iconst 2, 1) := by decide +kernel
theorem dX0_addAll_25 : decode cX0_addAll 25 = .ok (.invokevirtual 41, 3) := by decide +kernel
theorem dX0_addAll_28 : decode cX0_addAll 28 = .ok (.aload_n 1, 1) := by decide +kernel
theorem dX0_addAll_29 : decode cX0_addAll 29 = .ok (.iload_n 2, 1) := by decide +kernel
theorem dX0_addAll_30 : decode cX0_addAll 30 = .ok (.iconst 3, 1) := by decide +kernel
theorem dX0_addAll_31 : decode cX0_addAll 31 = .ok (.invokevirtual 41, 3) := by decide +kernel
theorem dX0_addAll_34 : decode cX0_addAll 34 = .ok (.invokevirtual 45, 3) := by decide +kernel
theorem dX0_addAll_37 : decode cX0_addAll 37 = .ok (.iinc 2 1, 3) := by decide +kernel
theorem dX0_addAll_40 : decode cX0_addAll 40 = .ok (.goto (-38), 3) := by decide +kernel
theorem dX0_addAll_43 : decode cX0_addAll 43 = .ok (.return_, 1) := by decide +kernel
theorem dX0_setSource_0 : decode cX0_setSource 0 = .ok (.aload_n 0, 1) := by decide +kernel
theorem dX0_setSource_1 : decode cX0_setSource 1 = .ok (.iload_n 1, 1) := by decide +kernel
theorem dX0_setSource_2 : decode cX0_setSource 2 = .ok (.iconst 1, 1) := by decide +kernel
theorem dX0_setSource_3 : decode cX0_setSource 3 = .ok (.iload_n 2, 1) := by decide +kernel
theorem dX0_setSource_4 : decode cX0_setSource 4 = .ok (.invokevirtual 37, 3) := by decide +kernel
theorem dX0_setSource_7 : decode cX0_setSource 7 = .ok (.aload_n 0, 1) := by decide +kernel
theorem dX0_setSource_8 : decode cX0_setSource 8 = .ok (.iload_n 1, 1) := by decide +kernel
theorem dX0_setSource_9 : decode cX0_setSource 9 = .ok (.iconst 2, 1) := by decide +kernel
theorem dX0_setSource_10 : decode cX0_setSource 10 = .ok (.iload_n 3, 1) := by decide +kernel
theorem dX0_setSource_11 : decode cX0_setSource 11 = .ok (.invokevirtual 37, 3) := by decide +kernel
theorem dX0_setSource_14 : decode cX0_setSource 14 = .ok (.return_, 1) := by decide +kernel
theorem dX0_dropLast_0 : decode cX0_dropLast 0 = .ok (.aload_n 0, 1) := by decide +kernel
theorem dX0_dropLast_1 : decode cX0_dropLast 1 = .ok (.getfield 15, 3) := by decide +kernel
theorem dX0_dropLast_4 : decode cX0_dropLast 4 = .ok (.ifCond .le 13, 3) := by decide +kernel
theorem dX0_dropLast_7 : decode cX0_dropLast 7 = .ok (.aload_n 0, 1) := by decide +kernel
theorem dX0_dropLast_8 : decode cX0_dropLast 8 = .ok (.dup, 1) := by decide +kernel
theorem dX0_dropLast_9 : decode cX0_dropLast 9 = .ok (.getfield 15, 3) := by decide +kernel
theorem dX0_dropLast_12 : decode cX0_dropLast 12 = .ok (.iconst 1, 1) := by decide +kernel
theorem dX0_dropLast_13 : decode cX0_dropLast 13 = .ok (.isub, 1) := by decide +kernel
theorem dX0_dropLast_14 : decode cX0_dropLast 14 = .ok (.putfield 15, 3) := by decide +kernel
theorem dX0_dropLast_17 : decode cX0_dropLast 17 = .ok (.return_, 1) := by decide +kernel
theorem dX0_copyFrom_0 : decode cX0_copyFrom 0 = .ok (.aload_n 0, 1) := by decide +kernel
theorem dX0_copyFrom_1 : decode cX0_copyFrom 1 = .ok (.aload_n 1, 1) := by decide +kernel
theorem dX0_copyFrom_2 : decode cX0_copyFrom 2 = .ok (.getfield 9, 3) := by decide +kernel
theorem dX0_copyFrom_5 : decode cX0_copyFrom 5 = .ok (.putfield 9, 3) := by decide +kernel
theorem dX0_copyFrom_8 : decode cX0_copyFrom 8 = .ok (.aload_n 0, 1) := by decide +kernel
theorem dX0_copyFrom_9 : decode cX0_copyFrom 9 = .ok (.iconst 0, 1) := by decide +kernel
theorem dX0_copyFrom_10 : decode cX0_copyFrom 10 = .ok (.putfield 15, 3) := by decide +kernel
theorem dX0_copyFrom_13 : decode cX0_copyFrom 13 = .ok (.aload_n 0, 1) := by decide +kernel
theorem dX0_copyFrom_14 : decode cX0_copyFrom 14 = .ok (.aload_n 1, 1) := by decide +kernel
theorem dX0_copyFrom_15 : decode cX0_copyFrom 15 = .ok (.invokevirtual 49, 3) := by decide +kernel
theorem dX0_copyFrom_18 : decode cX0_copyFrom 18 = .ok (.return_, 1) := by decide +kernel
theorem dX1_init_0 : decode cX1_init 0 = .ok (.aload_n 0, 1) := by decide +kernel
theorem dX1_init_1 : decode cX1_init 1 = .ok (.invokespecial 3, 3) := by decide +kernel
theorem dX1_init_4 : decode cX1_init 4 = .ok (.aload_n 0, 1) := by decide +kernel
theorem dX1_init_5 : decode cX1_init 5 = .ok (.bipush 80, 2) := by decide +kernel
theorem dX1_init_7 : decode cX1_init 7 = .ok (.newarray .char, 2) := by decide +kernel
theorem dX1_init_9 : decode cX1_init 9 = .ok (.putfield 9, 3) := by decide +kernel
theorem dX1_init_12 : decode cX1_init 12 = .ok (.aload_n 0, 1) := by decide +kernel
theorem dX1_init_13 : decode cX1_init 13 = .ok (.iconst 0, 1) := by decide +kernel
theorem dX1_init_14 : decode cX1_init 14 = .ok (.putfield 15, 3) := by decide +kernel
theorem dX1_init_17 : decode cX1_init 17 = .ok (.aload_n 0, 1) := by decide +kernel
theorem dX1_init_18 : decode cX1_init 18 = .ok (.iconst 0, 1) := by decide +kernel
theorem dX1_init_19 : decode cX1_init 19 = .ok (.putfield 19, 3) := by decide +kernel
theorem dX1_init_22 : decode cX1_init 22 = .ok (.return_, 1) := by decide +kernel
theorem dX1_append_0 : decode cX1_append 0 = .ok (.aload_n 0, 1) := by decide +kernel
theorem dX1_append_1 : decode cX1_append 1 = .ok (.getfield 15, 3) := by decide +kernel
theorem dX1_append_4 : decode cX1_append 4 = .ok (.ifCond .lt 35, 3) := by decide +kernel
theorem dX1_append_7 : decode cX1_append 7 = .ok (.aload_n 0, 1) := by decide +kernel
theorem dX1_append_8 : decode cX1_append 8 = .ok (.getfield 15, 3) := by decide +kernel
theorem dX1_append_11 : decode cX1_append 11 = .ok (.aload_n 0, 1) := by decide +kernel
theorem dX1_append_12 : decode cX1_append 12 = .ok (.getfield 9, 3) := by decide +kernel
theorem dX1_append_15 : decode cX1_append 15 = .ok (.arraylength, 1) := by decide +kernel
theorem dX1_append_16 : decode cX1_append 16 = .ok (.if_icmp .ge 23, 3) := by decide +kernel
theorem dX1_append_19 : decode cX1_append 19 = .ok (.aload_n 0, 1) := by decide +kernel
theorem dX1_append_20 : decode cX1_append 20 = .ok (.getfield 9, 3) := by decide +kernel
theorem dX1_append_23 : decode cX1_append 23 = .ok (.aload_n 0, 1) := by decide +kernel
theorem dX1_append_24 : decode cX1_append 24 = .ok (.getfield 15, 3) := by decide +kernel
theorem dX1_append_27 : decode cX1_append 27 = .ok (.iload_n 1, 1) := by decide +kernel
theorem dX1_append_28 : decode cX1_append 28 = .ok (.castore, 1) := by decide +kernel
theorem dX1_append_29 : decode cX1_append 29 = .ok (.aload_n 0, 1) := by decide +kernel
theorem dX1_append_30 : decode cX1_append 30 = .ok (.dup, 1) := by decide +kernel
theorem dX1_append_31 : decode cX1_append 31 = .ok (.getfield 15, 3) := by decide +kernel
theorem dX1_append_34 : decode cX1_append 34 = .ok (.iconst 1, 1) := by decide +kernel
theorem dX1_append_35 : decode cX1_append 35 = .ok (.iadd, 1) := by decide +kernel
theorem dX1_append_36 : decode cX1_append 36 = .ok (.putfield 15, 3) := by decide +kernel
theorem dX1_append_39 : decode cX1_append 39 = .ok (.return_, 1) := by decide +kernel
theorem dX1_readInto_0 : decode cX1_readInto 0 = .ok (.aload_n 1, 1) := by decide +kernel
theorem dX1_readInto_1 : decode cX1_readInto 1 = .ok (.iconst 0, 1) := by decide +kernel
theorem dX1_readInto_2 : decode cX1_readInto 2 = .ok (.putfield 22, 3) := by decide +kernel
theorem dX1_readInto_5 : decode cX1_readInto 5 = .ok (.aload_n 0, 1) := by decide +kernel
theorem dX1_readInto_6 : decode cX1_readInto 6 = .ok (.iconst 0, 1) := by decide +kernel
theorem dX1_readInto_7 : decode cX1_readInto 7 = .ok (.putfield 19, 3) := by decide +kernel
theorem dX1_readInto_10 : decode cX1_readInto 10 = .ok (.iconst 0, 1) := by decide +kernel
theorem dX1_readInto_11 : decode cX1_readInto 11 = .ok (.istore_n 2, 1) := by decide +kernel
theorem dX1_readInto_12 : decode cX1_readInto 12 = .ok (.iload_n 2, 1) := by decide +kernel
theorem dX1_readInto_13 : decode cX1_readInto 13 = .ok (.bipush 80, 2) := by decide +kernel
theorem dX1_readInto_15 : decode cX1_readInto 15 = .ok (.if_icmp .gt 49, 3) := by decide +kernel
theorem dX1_readInto_18 : decode cX1_readInto 18 = .ok (.aload_n 0, 1) := by decide +kernel
theorem dX1_readInto_19 : decode cX1_readInto 19 = .ok (.aload_n 1, 1) := by decide +kernel
theorem dX1_readInto_20 : decode cX1_readInto 20 = .ok (.invokevirtual 25, 3) := by decide +kernel
theorem dX1_readInto_23 : decode cX1_readInto 23 = .ok (.ifCond .ne 8, 3) := by decide +kernel
theorem dX1_readInto_26 : decode cX1_readInto 26 = .ok (.aload_n 0, 1) := by decide +kernel
theorem dX1_readInto_27 : decode cX1_readInto 27 = .ok (.getfield 19, 3) := by decide +kernel
theorem dX1_readInto_30 : decode cX1_readInto 30 = .ok (.ireturn, 1) := by decide +kernel
theorem dX1_readInto_31 : decode cX1_readInto 31 = .ok (.aload_n 0, 1) := by decide +kernel
theorem dX1_readInto_32 : decode cX1_readInto 32 = .ok (.getfield 19, 3) := by decide +kernel
theorem dX1_readInto_35 : decode cX1_readInto 35 = .ok (.aload_n 0, 1) := by decide +kernel
theorem dX1_readInto_36 : decode cX1_readInto 36 = .ok (.getfield 15, 3) := by decide +kernel
theorem dX1_readInto_39 : decode cX1_readInto 39 = .ok (.if_icmp .ne 5, 3) := by decide +kernel
theorem dX1_readInto_42 : decode cX1_readInto 42 = .ok (.iconst (-1), 1) := by decide +kernel
theorem dX1_readInto_43 : decode cX1_readInto 43 = .ok (.ireturn, 1) := by decide +kernel
theorem dX1_readInto_44 : decode cX1_readInto 44 = .ok (.aload_n 0, 1) := by decide +kernel
theorem dX1_readInto_45 : decode cX1_readInto 45 = .ok (.bipush 59, 2) := by decide +kernel
theorem dX1_readInto_47 : decode cX1_readInto 47 = .ok (.invokevirtual 29, 3) := by decide +kernel
theorem dX1_readInto_50 : decode cX1_readInto 50 = .ok (.ifCond .ne 8, 3) := by decide +kernel
theorem dX1_readInto_53 : decode cX1_readInto 53 = .ok (.aload_n 0, 1) := by decide +kernel
theorem dX1_readInto_54 : decode cX1_readInto 54 = .ok (.getfield 19, 3) := by decide +kernel
theorem dX1_readInto_57 : decode cX1_readInto 57 = .ok (.ireturn, 1) := by decide +kernel
theorem dX1_readInto_58 : decode cX1_readInto 58 = .ok (.iinc 2 1, 3) := by decide +kernel
theorem dX1_readInto_61 : decode cX1_readInto 61 = .ok (.goto (-49), 3) := by decide +kernel
theorem dX1_readInto_64 : decode cX1_readInto 64 = .ok (.aload_n 0, 1) := by decide +kernel
theorem dX1_readInto_65 : decode cX1_readInto 65 = .ok (.getfield 19, 3) := by decide +kernel
theorem dX1_readInto_68 : decode cX1_readInto 68 = .ok (.ireturn, 1) := by decide +kernel
theorem dX1_readLine_0 : decode cX1_readLine 0 = .ok (.aload_n 0, 1) := by decide +kernel
theorem dX1_readLine_1 : decode cX1_readLine 1 = .ok (.invokevirtual 33, 3) := by decide +kernel
theorem dX1_readLine_4 : decode cX1_readLine 4 = .ok (.istore_n 2, 1) := by decide +kernel
theorem dX1_readLine_5 : decode cX1_readLine 5 = .ok (.iload_n 2, 1) := by decide +kernel
theorem dX1_readLine_6 : decode cX1_readLine 6 = .ok (.iconst (-1), 1) := by decide +kernel
theorem dX1_readLine_7 : decode cX1_readLine 7 = .ok (.if_icmp .eq 14, 3) := by decide +kernel
theorem dX1_readLine_10 : decode cX1_readLine 10 = .ok (.aload_n 0, 1) := by decide +kernel
theorem dX1_readLine_11 : decode cX1_readLine 11 = .ok (.iload_n 2, 1) := by decide +kernel
theorem dX1_readLine_12 : decode cX1_readLine 12 = .ok (.invokestatic 37, 3) := by decide +kernel
theorem dX1_readLine_15 : decode cX1_readLine 15 = .ok (.invokevirtual 41, 3) := by decide +kernel
theorem dX1_readLine_18 : decode cX1_readLine 18 = .ok (.ifCond .ne 5, 3) := by decide +kernel
theorem dX1_readLine_21 : decode cX1_readLine 21 = .ok (.iconst 0, 1) := by decide +kernel
theorem dX1_readLine_22 : decode cX1_readLine 22 = .ok (.ireturn, 1) := by decide +kernel
theorem dX1_readLine_23 : decode cX1_readLine 23 = .ok (.aload_n 1, 1) := by decide +kernel
theorem dX1_readLine_24 : decode cX1_readLine 24 = .ok (.iload_n 2, 1) := by decide +kernel
theorem dX1_readLine_25 : decode cX1_readLine 25 = .ok (.iconst 0, 1) := by decide +kernel
theorem dX1_readLine_26 : decode cX1_readLine 26 = .ok (.iconst 0, 1) := by decide +kernel
theorem dX1_readLine_27 : decode cX1_readLine 27 = .ok (.iconst 0, 1) := by decide +kernel
theorem dX1_readLine_28 : decode cX1_readLine 28 = .ok (.invokevirtual 45, 3) := by decide +kernel
theorem dX1_readLine_31 : decode cX1_readLine 31 = .ok (.iload_n 2, 1) := by decide +kernel
theorem dX1_readLine_32 : decode cX1_readLine 32 = .ok (.invokestatic 49, 3) := by decide +kernel
theorem dX1_readLine_35 : decode cX1_readLine 35 = .ok (.istore_n 3, 1) := by decide +kernel
theorem dX1_readLine_36 : decode cX1_readLine 36 = .ok (.iconst 1, 1) := by decide +kernel
theorem dX1_readLine_37 : decode cX1_readLine 37 = .ok (.istore 4, 2) := by decide +kernel
theorem dX1_readLine_39 : decode cX1_readLine 39 = .ok (.iload 4, 2) := by decide +kernel
theorem dX1_readLine_41 : decode cX1_readLine 41 = .ok (.iload_n 3, 1) := by decide +kernel
theorem dX1_readLine_42 : decode cX1_readLine 42 = .ok (.if_icmp .gt 62, 3) := by decide +kernel
theorem dX1_readLine_45 : decode cX1_readLine 45 = .ok (.aload_n 0, 1) := by decide +kernel
theorem dX1_readLine_46 : decode cX1_readLine 46 = .ok (.bipush 32, 2) := by decide +kernel
theorem dX1_readLine_48 : decode cX1_readLine 48 = .ok (.invokevirtual 29, 3) := by decide +kernel
theorem dX1_readLine_51 : decode cX1_readLine 51 = .ok (.ifCond .eq 22, 3) := by decide +kernel
theorem dX1_readLine_54 : decode cX1_readLine 54 = .ok (.aload_n 0, 1) := by decide +kernel
theorem dX1_readLine_55 : decode cX1_readLine 55 = .ok (.iload_n 2, 1) := by decide +kernel
theorem dX1_readLine_56 : decode cX1_readLine 56 = .ok (.iload 4, 2) := by decide +kernel
theorem dX1_readLine_58 : decode cX1_readLine 58 = .ok (.invokestatic 53, 3) := by decide +kernel
theorem dX1_readLine_61 : decode cX1_readLine 61 = .ok (.iload_n 2, 1) := by decide +kernel
theorem dX1_readLine_62 : decode cX1_readLine 62 = .ok (.iload 4, 2) := by decide +kernel
theorem dX1_readLine_64 : decode cX1_readLine 64 = .ok (.invokestatic 57, 3) := by decide +kernel
theorem dX1_readLine_67 : decode cX1_readLine 67 = .ok (.invokevirtual 60, 3) := by decide +kernel
theorem dX1_readLine_70 : decode cX1_readLine 70 = .ok (.goto 4, 3) := by decide +kernel
theorem dX1_readLine_73 : decode cX1_readLine 73 = .ok (.iconst (-1), 1) := by decide +kernel
theorem dX1_readLine_74 : decode cX1_readLine 74 = .ok (.istore 5, 2) := by decide +kernel
theorem dX1_readLine_76 : decode cX1_readLine 76 = .ok (.iload 5, 2) := by decide +kernel
theorem dX1_readLine_78 : decode cX1_readLine 78 = .ok (.iconst (-1), 1) := by decide +kernel
theorem dX1_readLine_79 : decode cX1_readLine 79 = .ok (.if_icmp .ne 5, 3) := by decide +kernel
theorem dX1_readLine_82 : decode cX1_readLine 82 = .ok (.iconst 0, 1) := by decide +kernel
theorem dX1_readLine_83 : decode cX1_readLine 83 = .ok (.ireturn, 1) := by decide +kernel
theorem dX1_readLine_84 : decode cX1_readLine 84 = .ok (.aload_n 1, 1) := by decide +kernel
theorem dX1_readLine_85 : decode cX1_readLine 85 = .ok (.aload_n 1, 1) := by decide +kernel
theorem dX1_readLine_86 : decode cX1_readLine 86 = .ok (.getfield 22, 3) := by decide +kernel
theorem dX1_readLine_89 : decode cX1_readLine 89 = .ok (.iconst 1, 1) := by decide +kernel
theorem dX1_readLine_90 : decode cX1_readLine 90 = .ok (.isub, 1) := by decide +kernel
theorem dX1_readLine_91 : decode cX1_readLine 91 = .ok (.iload 4, 2) := by decide +kernel
theorem dX1_readLine_93 : decode cX1_readLine 93 = .ok (.iload 5, 2) := by decide +kernel
theorem dX1_readLine_95 : decode cX1_readLine 95 = .ok (.invokevirtual 63, 3) := by decide +kernel
theorem dX1_readLine_98 : decode cX1_readLine 98 = .ok (.iinc 4 1, 3) := by decide +kernel
theorem dX1_readLine_101 : decode cX1_readLine 101 = .ok (.goto (-62), 3) := by decide +kernel
theorem dX1_readLine_104 : decode cX1_readLine 104 = .ok (.iconst 1, 1) := by decide +kernel
theorem dX1_readLine_105 : decode cX1_readLine 105 = .ok (.ireturn, 1) := by decide +kernel
theorem dX1_kindHere_0 : decode cX1_kindHere 0 = .ok (.iconst 0, 1) := by decide +kernel
theorem dX1_kindHere_1 : decode cX1_kindHere 1 = .ok (.istore_n 1, 1) := by decide +kernel
theorem dX1_kindHere_2 : decode cX1_kindHere 2 = .ok (.iload_n 1, 1) := by decide +kernel
theorem dX1_kindHere_3 : decode cX1_kindHere 3 = .ok (.bipush 7, 2) := by decide +kernel
theorem dX1_kindHere_5 : decode cX1_kindHere 5 = .ok (.if_icmp .ge 35, 3) := by decide +kernel
theorem dX1_kindHere_8 : decode cX1_kindHere 8 = .ok (.iload_n 1, 1) := by decide +kernel
theorem dX1_kindHere_9 : decode cX1_kindHere 9 = .ok (.invokestatic 37, 3) := by decide +kernel
theorem dX1_kindHere_12 : decode cX1_kindHere 12 = .ok (.astore_n 2, 1) := by decide +kernel
theorem dX1_kindHere_13 : decode cX1_kindHere 13 = .ok (.aload_n 2, 1) := by decide +kernel
theorem dX1_kindHere_14 : decode cX1_kindHere 14 = .ok (.invokevirtual 67, 3) := by decide +kernel
theorem dX1_kindHere_17 : decode cX1_kindHere 17 = .ok (.ifCond .ne 17, 3) := by decide +kernel
theorem dX1_kindHere_20 : decode cX1_kindHere 20 = .ok (.aload_n 0, 1) := by decide +kernel
theorem dX1_kindHere_21 : decode cX1_kindHere 21 = .ok (.aload_n 2, 1) := by decide +kernel
theorem dX1_kindHere_22 : decode cX1_kindHere 22 = .ok (.iconst 0, 1) := by decide +kernel
theorem dX1_kindHere_23 : decode cX1_kindHere 23 = .ok (.invokevirtual 73, 3) := by decide +kernel
theorem dX1_kindHere_26 : decode cX1_kindHere 26 = .ok (.invokevirtual 77, 3) := by decide +kernel
theorem dX1_kindHere_29 : decode cX1_kindHere 29 = .ok (.ifCond .eq 5, 3) := by decide +kernel
theorem dX1_kindHere_32 : decode cX1_kindHere 32 = .ok (.iload_n 1, 1) := by decide +kernel
theorem dX1_kindHere_33 : decode cX1_kindHere 33 = .ok (.ireturn, 1) := by decide +kernel
theorem dX1_kindHere_34 : decode cX1_kindHere 34 = .ok (.iinc 1 1, 3) := by decide +kernel
theorem dX1_kindHere_37 : decode cX1_kindHere 37 = .ok (.goto (-35), 3) := by decide +kernel
theorem dX1_kindHere_40 : decode cX1_kindHere 40 = .ok (.iconst (-1), 1) := by decide +kernel
theorem dX1_kindHere_41 : decode cX1_kindHere 41 = .ok (.ireturn, 1) := by decide +kernel
theorem dX1_wordOfKind_0 : decode cX1_wordOfKind 0 = .ok (.iload_n 0, 1) := by decide +kernel
theorem dX1_wordOfKind_1 : decode cX1_wordOfKind 1 = .ok (.tableswitch 57 0 5 #[39, 42, 45, 48, 51, 54], 39) := by decide +kernel
theorem dX1_wordOfKind_40 : decode cX1_wordOfKind 40 = .ok (.ldc 80, 2) := by decide +kernel
theorem dX1_wordOfKind_42 : decode cX1_wordOfKind 42 = .ok (.areturn, 1) := by decide +kernel
theorem dX1_wordOfKind_43 : decode cX1_wordOfKind 43 = .ok (.ldc 82, 2) := by decide +kernel
theorem dX1_wordOfKind_45 : decode cX1_wordOfKind 45 = .ok (.areturn, 1) := by decide +kernel
theorem dX1_wordOfKind_46 : decode cX1_wordOfKind 46 = .ok (.ldc 84, 2) := by decide +kernel
theorem dX1_wordOfKind_48 : decode cX1_wordOfKind 48 = .ok (.areturn, 1) := by decide +kernel
theorem dX1_wordOfKind_49 : decode cX1_wordOfKind 49 = .ok (.ldc 86, 2) := by decide +kernel
theorem dX1_wordOfKind_51 : decode cX1_wordOfKind 51 = .ok (.areturn, 1) := by decide +kernel
theorem dX1_wordOfKind_52 : decode cX1_wordOfKind 52 = .ok (.ldc 88, 2) := by decide +kernel
theorem dX1_wordOfKind_54 : decode cX1_wordOfKind 54 = .ok (.areturn, 1) := by decide +kernel
theorem dX1_wordOfKind_55 : decode cX1_wordOfKind 55 = .ok (.ldc 90, 2) := by decide +kernel
theorem dX1_wordOfKind_57 : decode cX1_wordOfKind 57 = .ok (.areturn, 1) := by decide +kernel
theorem dX1_wordOfKind_58 : decode cX1_wordOfKind 58 = .ok (.ldc 92, 2) := by decide +kernel
theorem dX1_wordOfKind_60 : decode cX1_wordOfKind 60 = .ok (.areturn, 1) := by decide +kernel
theorem dX1_leastNumber_0 : decode cX1_leastNumber 0 = .ok (.iload_n 1, 1) := by decide +kernel
theorem dX1_leastNumber_1 : decode cX1_leastNumber 1 = .ok (.iconst 2, 1) := by decide +kernel
theorem dX1_leastNumber_2 : decode cX1_leastNumber 2 = .ok (.if_icmp .ne 17, 3) := by decide +kernel
theorem dX1_leastNumber_5 : decode cX1_leastNumber 5 = .ok (.iload_n 0, 1) := by decide +kernel
theorem dX1_leastNumber_6 : decode cX1_leastNumber 6 = .ok (.ifCond .eq 9, 3) := by decide +kernel
theorem dX1_leastNumber_9 : decode cX1_leastNumber 9 = .ok (.iload_n 0, 1) := by decide +kernel
theorem dX1_leastNumber_10 : decode cX1_leastNumber 10 = .ok (.bipush 6, 2) := by decide +kernel
theorem dX1_leastNumber_12 : decode cX1_leastNumber 12 = .ok (.if_icmp .ne 7, 3) := by decide +kernel
theorem dX1_leastNumber_15 : decode cX1_leastNumber 15 = .ok (.iconst 1, 1) := by decide +kernel
theorem dX1_leastNumber_16 : decode cX1_leastNumber 16 = .ok (.goto 4, 3) := by decide +kernel
theorem dX1_leastNumber_19 : decode cX1_leastNumber 19 = .ok (.iconst 0, 1) := by decide +kernel
theorem dX1_leastNumber_20 : decode cX1_leastNumber 20 = .ok (.istore_n 2, 1) := by decide +kernel
theorem dX1_leastNumber_21 : decode cX1_leastNumber 21 = .ok (.iload_n 2, 1) := by decide +kernel
theorem dX1_leastNumber_22 : decode cX1_leastNumber 22 = .ok (.ifCond .eq 7, 3) := by decide +kernel
theorem dX1_leastNumber_25 : decode cX1_leastNumber 25 = .ok (.iconst 1, 1) := by decide +kernel
theorem dX1_leastNumber_26 : decode cX1_leastNumber 26 = .ok (.goto 4, 3) := by decide +kernel
theorem dX1_leastNumber_29 : decode cX1_leastNumber 29 = .ok (.iconst 0, 1) := by decide +kernel
theorem dX1_leastNumber_30 : decode cX1_leastNumber 30 = .ok (.ireturn, 1) := by decide +kernel
theorem dX1_mostNumber_0 : decode cX1_mostNumber 0 = .ok (.iload_n 1, 1) := by decide +kernel
theorem dX1_mostNumber_1 : decode cX1_mostNumber 1 = .ok (.iload_n 0, 1) := by decide +kernel
theorem dX1_mostNumber_2 : decode cX1_mostNumber 2 = .ok (.invokestatic 94, 3) := by decide +kernel
theorem dX1_mostNumber_5 : decode cX1_mostNumber 5 = .ok (.if_icmp .gt 6, 3) := by decide +kernel
theorem dX1_mostNumber_8 : decode cX1_mostNumber 8 = .ok (.bipush 15, 2) := by decide +kernel
theorem dX1_mostNumber_10 : decode cX1_mostNumber 10 = .ok (.ireturn, 1) := by decide +kernel
theorem dX1_mostNumber_11 : decode cX1_mostNumber 11 = .ok (.iload_n 0, 1) := by decide +kernel
theorem dX1_mostNumber_12 : decode cX1_mostNumber 12 = .ok (.bipush 6, 2) := by decide +kernel
theorem dX1_mostNumber_14 : decode cX1_mostNumber 14 = .ok (.if_icmp .ne 6, 3) := by decide +kernel
theorem dX1_mostNumber_17 : decode cX1_mostNumber 17 = .ok (.bipush 60, 2) := by decide +kernel
theorem dX1_mostNumber_19 : decode cX1_mostNumber 19 = .ok (.ireturn, 1) := by decide +kernel
theorem dX1_mostNumber_20 : decode cX1_mostNumber 20 = .ok (.iload_n 1, 1) := by decide +kernel
theorem dX1_mostNumber_21 : decode cX1_mostNumber 21 = .ok (.iconst 1, 1) := by decide +kernel
theorem dX1_mostNumber_22 : decode cX1_mostNumber 22 = .ok (.if_icmp .ne 9, 3) := by decide +kernel
theorem dX1_mostNumber_25 : decode cX1_mostNumber 25 = .ok (.sipush 256, 3) := by decide +kernel
theorem dX1_mostNumber_28 : decode cX1_mostNumber 28 = .ok (.goto 6, 3) := by decide +kernel
theorem dX1_mostNumber_31 : decode cX1_mostNumber 31 = .ok (.sipush 255, 3) := by decide +kernel
theorem dX1_mostNumber_34 : decode cX1_mostNumber 34 = .ok (.ireturn, 1) := by decide +kernel
theorem dX1_readNumber_0 : decode cX1_readNumber 0 = .ok (.aload_n 0, 1) := by decide +kernel
theorem dX1_readNumber_1 : decode cX1_readNumber 1 = .ok (.invokevirtual 97, 3) := by decide +kernel
theorem dX1_readNumber_4 : decode cX1_readNumber 4 = .ok (.istore_n 3, 1) := by decide +kernel
theorem dX1_readNumber_5 : decode cX1_readNumber 5 = .ok (.iload_n 3, 1) := by decide +kernel
theorem dX1_readNumber_6 : decode cX1_readNumber 6 = .ok (.iload_n 1, 1) := by decide +kernel
theorem dX1_readNumber_7 : decode cX1_readNumber 7 = .ok (.if_icmp .ge 5, 3) := by decide +kernel
theorem dX1_readNumber_10 : decode cX1_readNumber 10 = .ok (.iconst (-1), 1) := by decide +kernel
theorem dX1_readNumber_11 : decode cX1_readNumber 11 = .ok (.ireturn, 1) := by decide +kernel
theorem dX1_readNumber_12 : decode cX1_readNumber 12 = .ok (.aload_n 0, 1) := by decide +kernel
theorem dX1_readNumber_13 : decode cX1_readNumber 13 = .ok (.dup, 1) := by decide +kernel
theorem dX1_readNumber_14 : decode cX1_readNumber 14 = .ok (.getfield 19, 3) := by decide +kernel
theorem dX1_readNumber_17 : decode cX1_readNumber 17 = .ok (.iconst 1, 1) := by decide +kernel
theorem dX1_readNumber_18 : decode cX1_readNumber 18 = .ok (.iadd, 1) := by decide +kernel
theorem dX1_readNumber_19 : decode cX1_readNumber 19 = .ok (.putfield 19, 3) := by decide +kernel
theorem dX1_readNumber_22 : decode cX1_readNumber 22 = .ok (.iload_n 3, 1) := by decide +kernel
theorem dX1_readNumber_23 : decode cX1_readNumber 23 = .ok (.ifCond .le 60, 3) := by decide +kernel
theorem dX1_readNumber_26 : decode cX1_readNumber 26 = .ok (.aload_n 0, 1) := by decide +kernel
theorem dX1_readNumber_27 : decode cX1_readNumber 27 = .ok (.getfield 19, 3) := by decide +kernel
theorem dX1_readNumber_30 : decode cX1_readNumber 30 = .ok (.aload_n 0, 1) := by decide +kernel
theorem dX1_readNumber_31 : decode cX1_readNumber 31 = .ok (.getfield 15, 3) := by decide +kernel
theorem dX1_readNumber_34 : decode cX1_readNumber 34 = .ok (.if_icmp .ge 49, 3) := by decide +kernel
theorem dX1_readNumber_37 : decode cX1_readNumber 37 = .ok (.aload_n 0, 1) := by decide +kernel
theorem dX1_readNumber_38 : decode cX1_readNumber 38 = .ok (.invokevirtual 97, 3) := by decide +kernel
theorem dX1_readNumber_41 : decode cX1_readNumber 41 = .ok (.istore 4, 2) := by decide +kernel
theorem dX1_readNumber_43 : decode cX1_readNumber 43 = .ok (.iload 4, 2) := by decide +kernel
theorem dX1_readNumber_45 : decode cX1_readNumber 45 = .ok (.iconst (-1), 1) := by decide +kernel
theorem dX1_readNumber_46 : decode cX1_readNumber 46 = .ok (.if_icmp .eq 14, 3) := by decide +kernel
theorem dX1_readNumber_49 : decode cX1_readNumber 49 = .ok (.iload_n 3, 1) := by decide +kernel
theorem dX1_readNumber_50 : decode cX1_readNumber 50 = .ok (.bipush 10, 2) := by decide +kernel
theorem dX1_readNumber_52 : decode cX1_readNumber 52 = .ok (.imul, 1) := by decide +kernel
theorem dX1_readNumber_53 : decode cX1_readNumber 53 = .ok (.iload 4, 2) := by decide +kernel
theorem dX1_readNumber_55 : decode cX1_readNumber 55 = .ok (.iadd, 1) := by decide +kernel
theorem dX1_readNumber_56 : decode cX1_readNumber 56 = .ok (.iload_n 2, 1) := by decide +kernel
theorem dX1_readNumber_57 : decode cX1_readNumber 57 = .ok (.if_icmp .le 5, 3) := by decide +kernel
theorem dX1_readNumber_60 : decode cX1_readNumber 60 = .ok (.iload_n 3, 1) := by decide +kernel
theorem dX1_readNumber_61 : decode cX1_readNumber 61 = .ok (.ireturn, 1) := by decide +kernel
theorem dX1_readNumber_62 : decode cX1_readNumber 62 = .ok (.iload_n 3, 1) := by decide +kernel
theorem dX1_readNumber_63 : decode cX1_readNumber 63 = .ok (.bipush 10, 2) := by decide +kernel
theorem dX1_readNumber_65 : decode cX1_readNumber 65 = .ok (.imul, 1) := by decide +kernel
theorem dX1_readNumber_66 : decode cX1_readNumber 66 = .ok (.iload 4, 2) := by decide +kernel
theorem dX1_readNumber_68 : decode cX1_readNumber 68 = .ok (.iadd, 1) := by decide +kernel
theorem dX1_readNumber_69 : decode cX1_readNumber 69 = .ok (.istore_n 3, 1) := by decide +kernel
theorem dX1_readNumber_70 : decode cX1_readNumber 70 = .ok (.aload_n 0, 1) := by decide +kernel
theorem dX1_readNumber_71 : decode cX1_readNumber 71 = .ok (.dup, 1) := by decide +kernel
theorem dX1_readNumber_72 : decode cX1_readNumber 72 = .ok (.getfield 19, 3) := by decide +kernel
theorem dX1_readNumber_75 : decode cX1_readNumber 75 = .ok (.iconst 1, 1) := by decide +kernel
theorem dX1_readNumber_76 : decode cX1_readNumber 76 = .ok (.iadd, 1) := by decide +kernel
theorem dX1_readNumber_77 : decode cX1_readNumber 77 = .ok (.putfield 19, 3) := by decide +kernel
theorem dX1_readNumber_80 : decode cX1_readNumber 80 = .ok (.goto (-58), 3) := by decide +kernel
theorem dX1_readNumber_83 : decode cX1_readNumber 83 = .ok (.iload_n 3, 1) := by decide +kernel
theorem dX1_readNumber_84 : decode cX1_readNumber 84 = .ok (.ireturn, 1) := by decide +kernel
theorem dX1_digitHere_0 : decode cX1_digitHere 0 = .ok (.aload_n 0, 1) := by decide +kernel
theorem dX1_digitHere_1 : decode cX1_digitHere 1 = .ok (.getfield 19, 3) := by decide +kernel
theorem dX1_digitHere_4 : decode cX1_digitHere 4 = .ok (.ifCond .lt 26, 3) := by decide +kernel
theorem dX1_digitHere_7 : decode cX1_digitHere 7 = .ok (.aload_n 0, 1) := by decide +kernel
theorem dX1_digitHere_8 : decode cX1_digitHere 8 = .ok (.getfield 19, 3) := by decide +kernel
theorem dX1_digitHere_11 : decode cX1_digitHere 11 = .ok (.aload_n 0, 1) := by decide +kernel
theorem dX1_digitHere_12 : decode cX1_digitHere 12 = .ok (.getfield 15, 3) := by decide +kernel
theorem dX1_digitHere_15 : decode cX1_digitHere 15 = .ok (.if_icmp .ge 15, 3) := by decide +kernel
theorem dX1_digitHere_18 : decode cX1_digitHere 18 = .ok (.aload_n 0, 1) := by decide +kernel
theorem dX1_digitHere_19 : decode cX1_digitHere 19 = .ok (.getfield 19, 3) := by decide +kernel
theorem dX1_digitHere_22 : decode cX1_digitHere 22 = .ok (.aload_n 0, 1) := by decide +kernel
theorem dX1_digitHere_23 : decode cX1_digitHere 23 = .ok (.getfield 9, 3) := by decide +kernel
theorem dX1_digitHere_26 : decode cX1_digitHere 26 = .ok (.arraylength, 1) := by decide +kernel
theorem dX1_digitHere_27 : decode cX1_digitHere 27 = .ok (.if_icmp .lt 5, 3) := by decide +kernel
theorem dX1_digitHere_30 : decode cX1_digitHere 30 = .ok (.iconst (-1), 1) := by decide +kernel
theorem dX1_digitHere_31 : decode cX1_digitHere 31 = .ok (.ireturn, 1) := by decide +kernel
theorem dX1_digitHere_32 : decode cX1_digitHere 32 = .ok (.aload_n 0, 1) := by decide +kernel
theorem dX1_digitHere_33 : decode cX1_digitHere 33 = .ok (.getfield 9, 3) := by decide +kernel
theorem dX1_digitHere_36 : decode cX1_digitHere 36 = .ok (.aload_n 0, 1) := by decide +kernel
theorem dX1_digitHere_37 : decode cX1_digitHere 37 = .ok (.getfield 19, 3) := by decide +kernel
theorem dX1_digitHere_40 : decode cX1_digitHere 40 = .ok (.caload, 1) := by decide +kernel
theorem dX1_digitHere_41 : decode cX1_digitHere 41 = .ok (.istore_n 1, 1) := by decide +kernel
theorem dX1_digitHere_42 : decode cX1_digitHere 42 = .ok (.iload_n 1, 1) := by decide +kernel
theorem dX1_digitHere_43 : decode cX1_digitHere 43 = .ok (.bipush 48, 2) := by decide +kernel
theorem dX1_digitHere_45 : decode cX1_digitHere 45 = .ok (.if_icmp .lt 16, 3) := by decide +kernel
theorem dX1_digitHere_48 : decode cX1_digitHere 48 = .ok (.iload_n 1, 1) := by decide +kernel
theorem dX1_digitHere_49 : decode cX1_digitHere 49 = .ok (.bipush 57, 2) := by decide +kernel
theorem dX1_digitHere_51 : decode cX1_digitHere 51 = .ok (.if_icmp .gt 10, 3) := by decide +kernel
theorem dX1_digitHere_54 : decode cX1_digitHere 54 = .ok (.iload_n 1, 1) := by decide +kernel
theorem dX1_digitHere_55 : decode cX1_digitHere 55 = .ok (.bipush 48, 2) := by decide +kernel
theorem dX1_digitHere_57 : decode cX1_digitHere 57 = .ok (.isub, 1) := by decide +kernel
theorem dX1_digitHere_58 : decode cX1_digitHere 58 = .ok (.goto 4, 3) := by decide +kernel
theorem dX1_digitHere_61 : decode cX1_digitHere 61 = .ok (.iconst (-1), 1) := by decide +kernel
theorem dX1_digitHere_62 : decode cX1_digitHere 62 = .ok (.ireturn, 1) := by decide +kernel
theorem dX1_takeWord_0 : decode cX1_takeWord 0 = .ok (.iconst 0, 1) := by decide +kernel
theorem dX1_takeWord_1 : decode cX1_takeWord 1 = .ok (.istore_n 2, 1) := by decide +kernel
theorem dX1_takeWord_2 : decode cX1_takeWord 2 = .ok (.iload_n 2, 1) := by decide +kernel
theorem dX1_takeWord_3 : decode cX1_takeWord 3 = .ok (.aload_n 1, 1) := by decide +kernel
theorem dX1_takeWord_4 : decode cX1_takeWord 4 = .ok (.invokevirtual 100, 3) := by decide +kernel
theorem dX1_takeWord_7 : decode cX1_takeWord 7 = .ok (.if_icmp .ge 23, 3) := by decide +kernel
theorem dX1_takeWord_10 : decode cX1_takeWord 10 = .ok (.aload_n 0, 1) := by decide +kernel
theorem dX1_takeWord_11 : decode cX1_takeWord 11 = .ok (.aload_n 1, 1) := by decide +kernel
theorem dX1_takeWord_12 : decode cX1_takeWord 12 = .ok (.iload_n 2, 1) := by decide +kernel
theorem dX1_takeWord_13 : decode cX1_takeWord 13 = .ok (.invokevirtual 73, 3) := by decide +kernel
theorem dX1_takeWord_16 : decode cX1_takeWord 16 = .ok (.invokevirtual 29, 3) := by decide +kernel
theorem dX1_takeWord_19 : decode cX1_takeWord 19 = .ok (.ifCond .ne 5, 3) := by decide +kernel
theorem dX1_takeWord_22 : decode cX1_takeWord 22 = .ok (.iconst 0, 1) := by decide +kernel
theorem dX1_takeWord_23 : decode cX1_takeWord 23 = .ok (.ireturn, 1) := by decide +kernel
theorem dX1_takeWord_24 : decode cX1_takeWord 24 = .ok (.iinc 2 1, 3) := by decide +kernel
theorem dX1_takeWord_27 : decode cX1_takeWord 27 = .ok (.goto (-25), 3) := by decide +kernel
theorem dX1_takeWord_30 : decode cX1_takeWord 30 = .ok (.iconst 1, 1) := by decide +kernel
theorem dX1_takeWord_31 : decode cX1_takeWord 31 = .ok (.ireturn, 1) := by decide +kernel
theorem dX1_take_0 : decode cX1_take 0 = .ok (.aload_n 0, 1) := by decide +kernel
theorem dX1_take_1 : decode cX1_take 1 = .ok (.iload_n 1, 1) := by decide +kernel
theorem dX1_take_2 : decode cX1_take 2 = .ok (.invokevirtual 77, 3) := by decide +kernel
theorem dX1_take_5 : decode cX1_take 5 = .ok (.ifCond .ne 5, 3) := by decide +kernel
theorem dX1_take_8 : decode cX1_take 8 = .ok (.iconst 0, 1) := by decide +kernel
theorem dX1_take_9 : decode cX1_take 9 = .ok (.ireturn, 1) := by decide +kernel
theorem dX1_take_10 : decode cX1_take 10 = .ok (.aload_n 0, 1) := by decide +kernel
theorem dX1_take_11 : decode cX1_take 11 = .ok (.dup, 1) := by decide +kernel
theorem dX1_take_12 : decode cX1_take 12 = .ok (.getfield 19, 3) := by decide +kernel
theorem dX1_take_15 : decode cX1_take 15 = .ok (.iconst 1, 1) := by decide +kernel
theorem dX1_take_16 : decode cX1_take 16 = .ok (.iadd, 1) := by decide +kernel
theorem dX1_take_17 : decode cX1_take 17 = .ok (.putfield 19, 3) := by decide +kernel
theorem dX1_take_20 : decode cX1_take 20 = .ok (.iconst 1, 1) := by decide +kernel
theorem dX1_take_21 : decode cX1_take 21 = .ok (.ireturn, 1) := by decide +kernel
theorem dX1_isHere_0 : decode cX1_isHere 0 = .ok (.aload_n 0, 1) := by decide +kernel
theorem dX1_isHere_1 : decode cX1_isHere 1 = .ok (.getfield 19, 3) := by decide +kernel
theorem dX1_isHere_4 : decode cX1_isHere 4 = .ok (.ifCond .lt 43, 3) := by decide +kernel
theorem dX1_isHere_7 : decode cX1_isHere 7 = .ok (.aload_n 0, 1) := by decide +kernel
theorem dX1_isHere_8 : decode cX1_isHere 8 = .ok (.getfield 19, 3) := by decide +kernel
theorem dX1_isHere_11 : decode cX1_isHere 11 = .ok (.aload_n 0, 1) := by decide +kernel
theorem dX1_isHere_12 : decode cX1_isHere 12 = .ok (.getfield 15, 3) := by decide +kernel
theorem dX1_isHere_15 : decode cX1_isHere 15 = .ok (.if_icmp .ge 32, 3) := by decide +kernel
theorem dX1_isHere_18 : decode cX1_isHere 18 = .ok (.aload_n 0, 1) := by decide +kernel
theorem dX1_isHere_19 : decode cX1_isHere 19 = .ok (.getfield 19, 3) := by decide +kernel
theorem dX1_isHere_22 : decode cX1_isHere 22 = .ok (.aload_n 0, 1) := by decide +kernel
theorem dX1_isHere_23 : decode cX1_isHere 23 = .ok (.getfield 9, 3) := by decide +kernel
theorem dX1_isHere_26 : decode cX1_isHere 26 = .ok (.arraylength, 1) := by decide +kernel
theorem dX1_isHere_27 : decode cX1_isHere 27 = .ok (.if_icmp .ge 20, 3) := by decide +kernel
theorem dX1_isHere_30 : decode cX1_isHere 30 = .ok (.aload_n 0, 1) := by decide +kernel
theorem dX1_isHere_31 : decode cX1_isHere 31 = .ok (.getfield 9, 3) := by decide +kernel
theorem dX1_isHere_34 : decode cX1_isHere 34 = .ok (.aload_n 0, 1) := by decide +kernel
theorem dX1_isHere_35 : decode cX1_isHere 35 = .ok (.getfield 19, 3) := by decide +kernel
theorem dX1_isHere_38 : decode cX1_isHere 38 = .ok (.caload, 1) := by decide +kernel
theorem dX1_isHere_39 : decode cX1_isHere 39 = .ok (.iload_n 1, 1) := by decide +kernel
theorem dX1_isHere_40 : decode cX1_isHere 40 = .ok (.if_icmp .ne 7, 3) := by decide +kernel
theorem dX1_isHere_43 : decode cX1_isHere 43 = .ok (.iconst 1, 1) := by decide +kernel
theorem dX1_isHere_44 : decode cX1_isHere 44 = .ok (.goto 4, 3) := by decide +kernel
theorem dX1_isHere_47 : decode cX1_isHere 47 = .ok (.iconst 0, 1) := by decide +kernel
theorem dX1_isHere_48 : decode cX1_isHere 48 = .ok (.ireturn, 1) := by decide +kernel
theorem dX2_init_0 : decode cX2_init 0 = .ok (.aload_n 0, 1) := by decide +kernel
theorem dX2_init_1 : decode cX2_init 1 = .ok (.invokespecial 3, 3) := by decide +kernel
theorem dX2_init_4 : decode cX2_init 4 = .ok (.aload_n 0, 1) := by decide +kernel
theorem dX2_init_5 : decode cX2_init 5 = .ok (.bipush 16, 2) := by decide +kernel
theorem dX2_init_7 : decode cX2_init 7 = .ok (.newarray .int, 2) := by decide +kernel
theorem dX2_init_9 : decode cX2_init 9 = .ok (.putfield 9, 3) := by decide +kernel
theorem dX2_init_12 : decode cX2_init 12 = .ok (.aload_n 0, 1) := by decide +kernel
theorem dX2_init_13 : decode cX2_init 13 = .ok (.bipush 16, 2) := by decide +kernel
theorem dX2_init_15 : decode cX2_init 15 = .ok (.newarray .int, 2) := by decide +kernel
theorem dX2_init_17 : decode cX2_init 17 = .ok (.putfield 15, 3) := by decide +kernel
theorem dX2_init_20 : decode cX2_init 20 = .ok (.aload_n 0, 1) := by decide +kernel
theorem dX2_init_21 : decode cX2_init 21 = .ok (.bipush 16, 2) := by decide +kernel
theorem dX2_init_23 : decode cX2_init 23 = .ok (.newarray .int, 2) := by decide +kernel
theorem dX2_init_25 : decode cX2_init 25 = .ok (.putfield 18, 3) := by decide +kernel
theorem dX2_init_28 : decode cX2_init 28 = .ok (.return_, 1) := by decide +kernel
theorem dX2_workOut_0 : decode cX2_workOut 0 = .ok (.iconst 0, 1) := by decide +kernel
theorem dX2_workOut_1 : decode cX2_workOut 1 = .ok (.istore_n 2, 1) := by decide +kernel
theorem dX2_workOut_2 : decode cX2_workOut 2 = .ok (.iload_n 2, 1) := by decide +kernel
theorem dX2_workOut_3 : decode cX2_workOut 3 = .ok (.aload_n 1, 1) := by decide +kernel
theorem dX2_workOut_4 : decode cX2_workOut 4 = .ok (.getfield 21, 3) := by decide +kernel
theorem dX2_workOut_7 : decode cX2_workOut 7 = .ok (.if_icmp .ge 51, 3) := by decide +kernel
theorem dX2_workOut_10 : decode cX2_workOut 10 = .ok (.aload_n 0, 1) := by decide +kernel
theorem dX2_workOut_11 : decode cX2_workOut 11 = .ok (.getfield 9, 3) := by decide +kernel
theorem dX2_workOut_14 : decode cX2_workOut 14 = .ok (.iload_n 2, 1) := by decide +kernel
theorem dX2_workOut_15 : decode cX2_workOut 15 = .ok (.aload_n 0, 1) := by decide +kernel
theorem dX2_workOut_16 : decode cX2_workOut 16 = .ok (.aload_n 1, 1) := by decide +kernel
theorem dX2_workOut_17 : decode cX2_workOut 17 = .ok (.iload_n 2, 1) := by decide +kernel
theorem dX2_workOut_18 : decode cX2_workOut 18 = .ok (.invokevirtual 27, 3) := by decide +kernel
theorem dX2_workOut_21 : decode cX2_workOut 21 = .ok (.invokestatic 31, 3) := by decide +kernel
theorem dX2_workOut_24 : decode cX2_workOut 24 = .ok (.aload_n 0, 1) := by decide +kernel
theorem dX2_workOut_25 : decode cX2_workOut 25 = .ok (.getfield 15, 3) := by decide +kernel
theorem dX2_workOut_28 : decode cX2_workOut 28 = .ok (.iload_n 2, 1) := by decide +kernel
theorem dX2_workOut_29 : decode cX2_workOut 29 = .ok (.aload_n 0, 1) := by decide +kernel
theorem dX2_workOut_30 : decode cX2_workOut 30 = .ok (.aload_n 1, 1) := by decide +kernel
theorem dX2_workOut_31 : decode cX2_workOut 31 = .ok (.iload_n 2, 1) := by decide +kernel
theorem dX2_workOut_32 : decode cX2_workOut 32 = .ok (.invokevirtual 35, 3) := by decide +kernel
theorem dX2_workOut_35 : decode cX2_workOut 35 = .ok (.invokestatic 31, 3) := by decide +kernel
theorem dX2_workOut_38 : decode cX2_workOut 38 = .ok (.aload_n 0, 1) := by decide +kernel
theorem dX2_workOut_39 : decode cX2_workOut 39 = .ok (.getfield 18, 3) := by decide +kernel
theorem dX2_workOut_42 : decode cX2_workOut 42 = .ok (.iload_n 2, 1) := by decide +kernel
theorem dX2_workOut_43 : decode cX2_workOut 43 = .ok (.aload_n 0, 1) := by decide +kernel
theorem dX2_workOut_44 : decode cX2_workOut 44 = .ok (.aload_n 1, 1) := by decide +kernel
theorem dX2_workOut_45 : decode cX2_workOut 45 = .ok (.iload_n 2, 1) := by decide +kernel
theorem dX2_workOut_46 : decode cX2_workOut 46 = .ok (.invokevirtual 38, 3) := by decide +kernel
theorem dX2_workOut_49 : decode cX2_workOut 49 = .ok (.invokestatic 31, 3) := by decide +kernel
theorem dX2_workOut_52 : decode cX2_workOut 52 = .ok (.iinc 2 1, 3) := by decide +kernel
theorem dX2_workOut_55 : decode cX2_workOut 55 = .ok (.goto (-53), 3) := by decide +kernel
theorem dX2_workOut_58 : decode cX2_workOut 58 = .ok (.return_, 1) := by decide +kernel
theorem dX2_exactShareOf_0 : decode cX2_exactShareOf 0 = .ok (.aload_n 0, 1) := by decide +kernel
theorem dX2_exactShareOf_1 : decode cX2_exactShareOf 1 = .ok (.getfield 9, 3) := by decide +kernel
theorem dX2_exactShareOf_4 : decode cX2_exactShareOf 4 = .ok (.iload_n 1, 1) := by decide +kernel
theorem dX2_exactShareOf_5 : decode cX2_exactShareOf 5 = .ok (.invokestatic 41, 3) := by decide +kernel
theorem dX2_exactShareOf_8 : decode cX2_exactShareOf 8 = .ok (.ireturn, 1) := by decide +kernel
theorem dX2_depthOf_0 : decode cX2_depthOf 0 = .ok (.aload_n 0, 1) := by decide +kernel
theorem dX2_depthOf_1 : decode cX2_depthOf 1 = .ok (.getfield 15, 3) := by decide +kernel
theorem dX2_depthOf_4 : decode cX2_depthOf 4 = .ok (.iload_n 1, 1) := by decide +kernel
theorem dX2_depthOf_5 : decode cX2_depthOf 5 = .ok (.invokestatic 41, 3) := by decide +kernel
theorem dX2_depthOf_8 : decode cX2_depthOf 8 = .ok (.ireturn, 1) := by decide +kernel
theorem dX2_sourcesOf_0 : decode cX2_sourcesOf 0 = .ok (.aload_n 0, 1) := by decide +kernel
theorem dX2_sourcesOf_1 : decode cX2_sourcesOf 1 = .ok (.getfield 18, 3) := by decide +kernel
theorem dX2_sourcesOf_4 : decode cX2_sourcesOf 4 = .ok (.iload_n 1, 1) := by decide +kernel
theorem dX2_sourcesOf_5 : decode cX2_sourcesOf 5 = .ok (.invokestatic 41, 3) := by decide +kernel
theorem dX2_sourcesOf_8 : decode cX2_sourcesOf 8 = .ok (.invokestatic 45, 3) := by decide +kernel
theorem dX2_sourcesOf_11 : decode cX2_sourcesOf 11 = .ok (.ireturn, 1) := by decide +kernel
theorem dX2_greatestDepth_0 : decode cX2_greatestDepth 0 = .ok (.iconst 0, 1) := by decide +kernel
theorem dX2_greatestDepth_1 : decode cX2_greatestDepth 1 = .ok (.istore_n 2, 1) := by decide +kernel
theorem dX2_greatestDepth_2 : decode cX2_greatestDepth 2 = .ok (.iconst 0, 1) := by decide +kernel
theorem dX2_greatestDepth_3 : decode cX2_greatestDepth 3 = .ok (.istore_n 3, 1) := by decide +kernel
theorem dX2_greatestDepth_4 : decode cX2_greatestDepth 4 = .ok (.iload_n 3, 1) := by decide +kernel
theorem dX2_greatestDepth_5 : decode cX2_greatestDepth 5 = .ok (.iload_n 1, 1) := by decide +kernel
theorem dX2_greatestDepth_6 : decode cX2_greatestDepth 6 = .ok (.if_icmp .ge 19, 3) := by decide +kernel
theorem dX2_greatestDepth_9 : decode cX2_greatestDepth 9 = .ok (.iload_n 2, 1) := by decide +kernel
theorem dX2_greatestDepth_10 : decode cX2_greatestDepth 10 = .ok (.aload_n 0, 1) := by decide +kernel
theorem dX2_greatestDepth_11 : decode cX2_greatestDepth 11 = .ok (.iload_n 3, 1) := by decide +kernel
theorem dX2_greatestDepth_12 : decode cX2_greatestDepth 12 = .ok (.invokevirtual 51, 3) := by decide +kernel
theorem dX2_greatestDepth_15 : decode cX2_greatestDepth 15 = .ok (.invokestatic 54, 3) := by decide +kernel
theorem dX2_greatestDepth_18 : decode cX2_greatestDepth 18 = .ok (.istore_n 2, 1) := by decide +kernel
theorem dX2_greatestDepth_19 : decode cX2_greatestDepth 19 = .ok (.iinc 3 1, 3) := by decide +kernel
theorem dX2_greatestDepth_22 : decode cX2_greatestDepth 22 = .ok (.goto (-18), 3) := by decide +kernel
theorem dX2_greatestDepth_25 : decode cX2_greatestDepth 25 = .ok (.iload_n 2, 1) := by decide +kernel
theorem dX2_greatestDepth_26 : decode cX2_greatestDepth 26 = .ok (.ireturn, 1) := by decide +kernel
theorem dX2_exactShareIn_0 : decode cX2_exactShareIn 0 = .ok (.aload_n 1, 1) := by decide +kernel
theorem dX2_exactShareIn_1 : decode cX2_exactShareIn 1 = .ok (.iload_n 2, 1) := by decide +kernel
theorem dX2_exactShareIn_2 : decode cX2_exactShareIn 2 = .ok (.iconst 1, 1) := by decide +kernel
theorem dX2_exactShareIn_3 : decode cX2_exactShareIn 3 = .ok (.invokevirtual 60, 3) := by decide +kernel
theorem dX2_exactShareIn_6 : decode cX2_exactShareIn 6 = .ok (.istore_n 3, 1) := by decide +kernel
theorem dX2_exactShareIn_7 : decode cX2_exactShareIn 7 = .ok (.aload_n 1, 1) := by decide +kernel
theorem dX2_exactShareIn_8 : decode cX2_exactShareIn 8 = .ok (.iload_n 2, 1) := by decide +kernel
theorem dX2_exactShareIn_9 : decode cX2_exactShareIn 9 = .ok (.iconst 2, 1) := by decide +kernel
theorem dX2_exactShareIn_10 : decode cX2_exactShareIn 10 = .ok (.invokevirtual 60, 3) := by decide +kernel
theorem dX2_exactShareIn_13 : decode cX2_exactShareIn 13 = .ok (.istore 4, 2) := by decide +kernel
theorem dX2_exactShareIn_15 : decode cX2_exactShareIn 15 = .ok (.aload_n 0, 1) := by decide +kernel
theorem dX2_exactShareIn_16 : decode cX2_exactShareIn 16 = .ok (.iload_n 3, 1) := by decide +kernel
theorem dX2_exactShareIn_17 : decode cX2_exactShareIn 17 = .ok (.invokevirtual 63, 3) := by decide +kernel
theorem dX2_exactShareIn_20 : decode cX2_exactShareIn 20 = .ok (.istore 5, 2) := by decide +kernel
theorem dX2_exactShareIn_22 : decode cX2_exactShareIn 22 = .ok (.aload_n 1, 1) := by decide +kernel
theorem dX2_exactShareIn_23 : decode cX2_exactShareIn 23 = .ok (.iload_n 2, 1) := by decide +kernel
theorem dX2_exactShareIn_24 : decode cX2_exactShareIn 24 = .ok (.invokevirtual 66, 3) := by decide +kernel
theorem dX2_exactShareIn_27 : decode cX2_exactShareIn 27 = .ok (.tableswitch 138 0 5 #[37, 43, 57, 81, 107, 132], 37) := by decide +kernel
theorem dX2_exactShareIn_64 : decode cX2_exactShareIn 64 = .ok (.iload_n 3, 1) := by decide +kernel
theorem dX2_exactShareIn_65 : decode cX2_exactShareIn 65 = .ok (.sipush 256, 3) := by decide +kernel
theorem dX2_exactShareIn_68 : decode cX2_exactShareIn 68 = .ok (.imul, 1) := by decide +kernel
theorem dX2_exactShareIn_69 : decode cX2_exactShareIn 69 = .ok (.ireturn, 1) := by decide +kernel
theorem dX2_exactShareIn_70 : decode cX2_exactShareIn 70 = .ok (.iload 5, 2) := by decide +kernel
theorem dX2_exactShareIn_72 : decode cX2_exactShareIn 72 = .ok (.i2l, 1) := by decide +kernel
theorem dX2_exactShareIn_73 : decode cX2_exactShareIn 73 = .ok (.aload_n 0, 1) := by decide +kernel
theorem dX2_exactShareIn_74 : decode cX2_exactShareIn 74 = .ok (.iload 4, 2) := by decide +kernel
theorem dX2_exactShareIn_76 : decode cX2_exactShareIn 76 = .ok (.invokevirtual 63, 3) := by decide +kernel
theorem dX2_exactShareIn_79 : decode cX2_exactShareIn 79 = .ok (.i2l, 1) := by decide +kernel
theorem dX2_exactShareIn_80 : decode cX2_exactShareIn 80 = .ok (.invokestatic 69, 3) := by decide +kernel
theorem dX2_exactShareIn_83 : decode cX2_exactShareIn 83 = .ok (.ireturn, 1) := by decide +kernel
theorem dX2_exactShareIn_84 : decode cX2_exactShareIn 84 = .ok (.iload 5, 2) := by decide +kernel
theorem dX2_exactShareIn_86 : decode cX2_exactShareIn 86 = .ok (.aload_n 0, 1) := by decide +kernel
theorem dX2_exactShareIn_87 : decode cX2_exactShareIn 87 = .ok (.iload 4, 2) := by decide +kernel
theorem dX2_exactShareIn_89 : decode cX2_exactShareIn 89 = .ok (.invokevirtual 63, 3) := by decide +kernel
theorem dX2_exactShareIn_92 : decode cX2_exactShareIn 92 = .ok (.iadd, 1) := by decide +kernel
theorem dX2_exactShareIn_93 : decode cX2_exactShareIn 93 = .ok (.iload 5, 2) := by decide +kernel
theorem dX2_exactShareIn_95 : decode cX2_exactShareIn 95 = .ok (.i2l, 1) := by decide +kernel
theorem dX2_exactShareIn_96 : decode cX2_exactShareIn 96 = .ok (.aload_n 0, 1) := by decide +kernel
theorem dX2_exactShareIn_97 : decode cX2_exactShareIn 97 = .ok (.iload 4, 2) := by decide +kernel
theorem dX2_exactShareIn_99 : decode cX2_exactShareIn 99 = .ok (.invokevirtual 63, 3) := by decide +kernel
theorem dX2_exactShareIn_102 : decode cX2_exactShareIn 102 = .ok (.i2l, 1) := by decide +kernel
theorem dX2_exactShareIn_103 : decode cX2_exactShareIn 103 = .ok (.invokestatic 69, 3) := by decide +kernel
theorem dX2_exactShareIn_106 : decode cX2_exactShareIn 106 = .ok (.isub, 1) := by decide +kernel
theorem dX2_exactShareIn_107 : decode cX2_exactShareIn 107 = .ok (.ireturn, 1) := by decide +kernel
theorem dX2_exactShareIn_108 : decode cX2_exactShareIn 108 = .ok (.iload 5, 2) := by decide +kernel
theorem dX2_exactShareIn_110 : decode cX2_exactShareIn 110 = .ok (.aload_n 0, 1) := by decide +kernel
theorem dX2_exactShareIn_111 : decode cX2_exactShareIn 111 = .ok (.iload 4, 2) := by decide +kernel
theorem dX2_exactShareIn_113 : decode cX2_exactShareIn 113 = .ok (.invokevirtual 63, 3) := by decide +kernel
theorem dX2_exactShareIn_116 : decode cX2_exactShareIn 116 = .ok (.iadd, 1) := by decide +kernel
theorem dX2_exactShareIn_117 : decode cX2_exactShareIn 117 = .ok (.iconst 2, 1) := by decide +kernel
theorem dX2_exactShareIn_118 : decode cX2_exactShareIn 118 = .ok (.iload 5, 2) := by decide +kernel
theorem dX2_exactShareIn_120 : decode cX2_exactShareIn 120 = .ok (.i2l, 1) := by decide +kernel
theorem dX2_exactShareIn_121 : decode cX2_exactShareIn 121 = .ok (.aload_n 0, 1) := by decide +kernel
theorem dX2_exactShareIn_122 : decode cX2_exactShareIn 122 = .ok (.iload 4, 2) := by decide +kernel
theorem dX2_exactShareIn_124 : decode cX2_exactShareIn 124 = .ok (.invokevirtual 63, 3) := by decide +kernel
theorem dX2_exactShareIn_127 : decode cX2_exactShareIn 127 = .ok (.i2l, 1) := by decide +kernel
theorem dX2_exactShareIn_128 : decode cX2_exactShareIn 128 = .ok (.invokestatic 69, 3) := by decide +kernel
theorem dX2_exactShareIn_131 : decode cX2_exactShareIn 131 = .ok (.imul, 1) := by decide +kernel
theorem dX2_exactShareIn_132 : decode cX2_exactShareIn 132 = .ok (.isub, 1) := by decide +kernel
theorem dX2_exactShareIn_133 : decode cX2_exactShareIn 133 = .ok (.ireturn, 1) := by decide +kernel
theorem dX2_exactShareIn_134 : decode cX2_exactShareIn 134 = .ok (.iload 5, 2) := by decide +kernel
theorem dX2_exactShareIn_136 : decode cX2_exactShareIn 136 = .ok (.i2l, 1) := by decide +kernel
theorem dX2_exactShareIn_137 : decode cX2_exactShareIn 137 = .ok (.aload_n 0, 1) := by decide +kernel
theorem dX2_exactShareIn_138 : decode cX2_exactShareIn 138 = .ok (.iload 4, 2) := by decide +kernel
theorem dX2_exactShareIn_140 : decode cX2_exactShareIn 140 = .ok (.invokevirtual 63, 3) := by decide +kernel
theorem dX2_exactShareIn_143 : decode cX2_exactShareIn 143 = .ok (.i2l, 1) := by decide +kernel
theorem dX2_exactShareIn_144 : decode cX2_exactShareIn 144 = .ok (.aload_n 0, 1) := by decide +kernel
theorem dX2_exactShareIn_145 : decode cX2_exactShareIn 145 = .ok (.aload_n 1, 1) := by decide +kernel
theorem dX2_exactShareIn_146 : decode cX2_exactShareIn 146 = .ok (.iload_n 2, 1) := by decide +kernel
theorem dX2_exactShareIn_147 : decode cX2_exactShareIn 147 = .ok (.iconst 3, 1) := by decide +kernel
theorem dX2_exactShareIn_148 : decode cX2_exactShareIn 148 = .ok (.invokevirtual 60, 3) := by decide +kernel
theorem dX2_exactShareIn_151 : decode cX2_exactShareIn 151 = .ok (.invokevirtual 63, 3) := by decide +kernel
theorem dX2_exactShareIn_154 : decode cX2_exactShareIn 154 = .ok (.i2l, 1) := by decide +kernel
theorem dX2_exactShareIn_155 : decode cX2_exactShareIn 155 = .ok (.invokestatic 73, 3) := by decide +kernel
theorem dX2_exactShareIn_158 : decode cX2_exactShareIn 158 = .ok (.ireturn, 1) := by decide +kernel
theorem dX2_exactShareIn_159 : decode cX2_exactShareIn 159 = .ok (.ldc 77, 2) := by decide +kernel
theorem dX2_exactShareIn_161 : decode cX2_exactShareIn 161 = .ok (.iload 5, 2) := by decide +kernel
theorem dX2_exactShareIn_163 : decode cX2_exactShareIn 163 = .ok (.isub, 1) := by decide +kernel
theorem dX2_exactShareIn_164 : decode cX2_exactShareIn 164 = .ok (.ireturn, 1) := by decide +kernel
theorem dX2_exactShareIn_165 : decode cX2_exactShareIn 165 = .ok (.iload 5, 2) := by decide +kernel
theorem dX2_exactShareIn_167 : decode cX2_exactShareIn 167 = .ok (.ireturn, 1) := by decide +kernel
theorem dX2_productOf_0 : decode cX2_productOf 0 = .ok (.lload_n 0, 1) := by decide +kernel
theorem dX2_productOf_1 : decode cX2_productOf 1 = .ok (.lload_n 2, 1) := by decide +kernel
theorem dX2_productOf_2 : decode cX2_productOf 2 = .ok (.lmul, 1) := by decide +kernel
theorem dX2_productOf_3 : decode cX2_productOf 3 = .ok (.ldc2_w 78, 3) := by decide +kernel
theorem dX2_productOf_6 : decode cX2_productOf 6 = .ok (.ldiv, 1) := by decide +kernel
theorem dX2_productOf_7 : decode cX2_productOf 7 = .ok (.l2i, 1) := by decide +kernel
theorem dX2_productOf_8 : decode cX2_productOf 8 = .ok (.ireturn, 1) := by decide +kernel
theorem dX2_mixOf_0 : decode cX2_mixOf 0 = .ok (.lload_n 0, 1) := by decide +kernel
theorem dX2_mixOf_1 : decode cX2_mixOf 1 = .ok (.lload 4, 2) := by decide +kernel
theorem dX2_mixOf_3 : decode cX2_mixOf 3 = .ok (.lmul, 1) := by decide +kernel
theorem dX2_mixOf_4 : decode cX2_mixOf 4 = .ok (.lload_n 2, 1) := by decide +kernel
theorem dX2_mixOf_5 : decode cX2_mixOf 5 = .ok (.ldc2_w 78, 3) := by decide +kernel
theorem dX2_mixOf_8 : decode cX2_mixOf 8 = .ok (.lload 4, 2) := by decide +kernel
theorem dX2_mixOf_10 : decode cX2_mixOf 10 = .ok (.lsub, 1) := by decide +kernel
theorem dX2_mixOf_11 : decode cX2_mixOf 11 = .ok (.lmul, 1) := by decide +kernel
theorem dX2_mixOf_12 : decode cX2_mixOf 12 = .ok (.ladd, 1) := by decide +kernel
theorem dX2_mixOf_13 : decode cX2_mixOf 13 = .ok (.ldc2_w 78, 3) := by decide +kernel
theorem dX2_mixOf_16 : decode cX2_mixOf 16 = .ok (.ldiv, 1) := by decide +kernel
theorem dX2_mixOf_17 : decode cX2_mixOf 17 = .ok (.l2i, 1) := by decide +kernel
theorem dX2_mixOf_18 : decode cX2_mixOf 18 = .ok (.ireturn, 1) := by decide +kernel
theorem dX2_depthIn_0 : decode cX2_depthIn 0 = .ok (.iconst 0, 1) := by decide +kernel
theorem dX2_depthIn_1 : decode cX2_depthIn 1 = .ok (.istore_n 3, 1) := by decide +kernel
theorem dX2_depthIn_2 : decode cX2_depthIn 2 = .ok (.aload_n 1, 1) := by decide +kernel
theorem dX2_depthIn_3 : decode cX2_depthIn 3 = .ok (.iload_n 2, 1) := by decide +kernel
theorem dX2_depthIn_4 : decode cX2_depthIn 4 = .ok (.invokevirtual 66, 3) := by decide +kernel
theorem dX2_depthIn_7 : decode cX2_depthIn 7 = .ok (.invokestatic 80, 3) := by decide +kernel
theorem dX2_depthIn_10 : decode cX2_depthIn 10 = .ok (.istore 4, 2) := by decide +kernel
theorem dX2_depthIn_12 : decode cX2_depthIn 12 = .ok (.iconst 1, 1) := by decide +kernel
theorem dX2_depthIn_13 : decode cX2_depthIn 13 = .ok (.istore 5, 2) := by decide +kernel
theorem dX2_depthIn_15 : decode cX2_depthIn 15 = .ok (.iload 5, 2) := by decide +kernel
theorem dX2_depthIn_17 : decode cX2_depthIn 17 = .ok (.iload 4, 2) := by decide +kernel
theorem dX2_depthIn_19 : decode cX2_depthIn 19 = .ok (.if_icmp .gt 27, 3) := by decide +kernel
theorem dX2_depthIn_22 : decode cX2_depthIn 22 = .ok (.iload_n 3, 1) := by decide +kernel
theorem dX2_depthIn_23 : decode cX2_depthIn 23 = .ok (.iconst 1, 1) := by decide +kernel
theorem dX2_depthIn_24 : decode cX2_depthIn 24 = .ok (.aload_n 0, 1) := by decide +kernel
theorem dX2_depthIn_25 : decode cX2_depthIn 25 = .ok (.aload_n 1, 1) := by decide +kernel
theorem dX2_depthIn_26 : decode cX2_depthIn 26 = .ok (.iload_n 2, 1) := by decide +kernel
theorem dX2_depthIn_27 : decode cX2_depthIn 27 = .ok (.iload 5, 2) := by decide +kernel
theorem dX2_depthIn_29 : decode cX2_depthIn 29 = .ok (.invokevirtual 60, 3) := by decide +kernel
theorem dX2_depthIn_32 : decode cX2_depthIn 32 = .ok (.invokevirtual 51, 3) := by decide +kernel
theorem dX2_depthIn_35 : decode cX2_depthIn 35 = .ok (.iadd, 1) := by decide +kernel
theorem dX2_depthIn_36 : decode cX2_depthIn 36 = .ok (.invokestatic 54, 3) := by decide +kernel
theorem dX2_depthIn_39 : decode cX2_depthIn 39 = .ok (.istore_n 3, 1) := by decide +kernel
theorem dX2_depthIn_40 : decode cX2_depthIn 40 = .ok (.iinc 5 1, 3) := by decide +kernel
theorem dX2_depthIn_43 : decode cX2_depthIn 43 = .ok (.goto (-28), 3) := by decide +kernel
theorem dX2_depthIn_46 : decode cX2_depthIn 46 = .ok (.iload_n 3, 1) := by decide +kernel
theorem dX2_depthIn_47 : decode cX2_depthIn 47 = .ok (.ireturn, 1) := by decide +kernel
theorem dX2_originsIn_0 : decode cX2_originsIn 0 = .ok (.aload_n 1, 1) := by decide +kernel
theorem dX2_originsIn_1 : decode cX2_originsIn 1 = .ok (.iload_n 2, 1) := by decide +kernel
theorem dX2_originsIn_2 : decode cX2_originsIn 2 = .ok (.invokevirtual 66, 3) := by decide +kernel
theorem dX2_originsIn_5 : decode cX2_originsIn 5 = .ok (.ifCond .ne 7, 3) := by decide +kernel
theorem dX2_originsIn_8 : decode cX2_originsIn 8 = .ok (.iconst 1, 1) := by decide +kernel
theorem dX2_originsIn_9 : decode cX2_originsIn 9 = .ok (.iload_n 2, 1) := by decide +kernel
theorem dX2_originsIn_10 : decode cX2_originsIn 10 = .ok (.ishl, 1) := by decide +kernel
theorem dX2_originsIn_11 : decode cX2_originsIn 11 = .ok (.ireturn, 1) := by decide +kernel
theorem dX2_originsIn_12 : decode cX2_originsIn 12 = .ok (.iconst 0, 1) := by decide +kernel
theorem dX2_originsIn_13 : decode cX2_originsIn 13 = .ok (.istore_n 3, 1) := by decide +kernel
theorem dX2_originsIn_14 : decode cX2_originsIn 14 = .ok (.aload_n 1, 1) := by decide +kernel
theorem dX2_originsIn_15 : decode cX2_originsIn 15 = .ok (.iload_n 2, 1) := by decide +kernel
theorem dX2_originsIn_16 : decode cX2_originsIn 16 = .ok (.invokevirtual 66, 3) := by decide +kernel
theorem dX2_originsIn_19 : decode cX2_originsIn 19 = .ok (.invokestatic 80, 3) := by decide +kernel
theorem dX2_originsIn_22 : decode cX2_originsIn 22 = .ok (.istore 4, 2) := by decide +kernel
theorem dX2_originsIn_24 : decode cX2_originsIn 24 = .ok (.iconst 1, 1) := by decide +kernel
theorem dX2_originsIn_25 : decode cX2_originsIn 25 = .ok (.istore 5, 2) := by decide +kernel
theorem dX2_originsIn_27 : decode cX2_originsIn 27 = .ok (.iload 5, 2) := by decide +kernel
theorem dX2_originsIn_29 : decode cX2_originsIn 29 = .ok (.iload 4, 2) := by decide +kernel
theorem dX2_originsIn_31 : decode cX2_originsIn 31 = .ok (.if_icmp .gt 26, 3) := by decide +kernel
theorem dX2_originsIn_34 : decode cX2_originsIn 34 = .ok (.iload_n 3, 1) := by decide +kernel
theorem dX2_originsIn_35 : decode cX2_originsIn 35 = .ok (.aload_n 0, 1) := by decide +kernel
theorem dX2_originsIn_36 : decode cX2_originsIn 36 = .ok (.getfield 18, 3) := by decide +kernel
theorem dX2_originsIn_39 : decode cX2_originsIn 39 = .ok (.aload_n 1, 1) := by decide +kernel
theorem dX2_originsIn_40 : decode cX2_originsIn 40 = .ok (.iload_n 2, 1) := by decide +kernel
theorem dX2_originsIn_41 : decode cX2_originsIn 41 = .ok (.iload 5, 2) := by decide +kernel
theorem dX2_originsIn_43 : decode cX2_originsIn 43 = .ok (.invokevirtual 60, 3) := by decide +kernel
theorem dX2_originsIn_46 : decode cX2_originsIn 46 = .ok (.invokestatic 41, 3) := by decide +kernel
theorem dX2_originsIn_49 : decode cX2_originsIn 49 = .ok (.ior, 1) := by decide +kernel
theorem dX2_originsIn_50 : decode cX2_originsIn 50 = .ok (.istore_n 3, 1) := by decide +kernel
theorem dX2_originsIn_51 : decode cX2_originsIn 51 = .ok (.iinc 5 1, 3) := by decide +kernel
theorem dX2_originsIn_54 : decode cX2_originsIn 54 = .ok (.goto (-27), 3) := by decide +kernel
theorem dX2_originsIn_57 : decode cX2_originsIn 57 = .ok (.iload_n 3, 1) := by decide +kernel
theorem dX2_originsIn_58 : decode cX2_originsIn 58 = .ok (.ireturn, 1) := by decide +kernel
theorem dX3_init_0 : decode cX3_init 0 = .ok (.aload_n 0, 1) := by decide +kernel
theorem dX3_init_1 : decode cX3_init 1 = .ok (.invokespecial 3, 3) := by decide +kernel
theorem dX3_init_4 : decode cX3_init 4 = .ok (.aload_n 0, 1) := by decide +kernel
theorem dX3_init_5 : decode cX3_init 5 = .ok (.iconst 4, 1) := by decide +kernel
theorem dX3_init_6 : decode cX3_init 6 = .ok (.anewarray 9, 3) := by decide +kernel
theorem dX3_init_9 : decode cX3_init 9 = .ok (.putfield 11, 3) := by decide +kernel
theorem dX3_init_12 : decode cX3_init 12 = .ok (.aload_n 0, 1) := by decide +kernel
theorem dX3_init_13 : decode cX3_init 13 = .ok (.iconst 0, 1) := by decide +kernel
theorem dX3_init_14 : decode cX3_init 14 = .ok (.putfield 17, 3) := by decide +kernel
theorem dX3_init_17 : decode cX3_init 17 = .ok (.aload_n 0, 1) := by decide +kernel
theorem dX3_init_18 : decode cX3_init 18 = .ok (.iconst 0, 1) := by decide +kernel
theorem dX3_init_19 : decode cX3_init 19 = .ok (.putfield 21, 3) := by decide +kernel
theorem dX3_init_22 : decode cX3_init 22 = .ok (.iconst 0, 1) := by decide +kernel
theorem dX3_init_23 : decode cX3_init 23 = .ok (.istore_n 1, 1) := by decide +kernel
theorem dX3_init_24 : decode cX3_init 24 = .ok (.iload_n 1, 1) := by decide +kernel
theorem dX3_init_25 : decode cX3_init 25 = .ok (.aload_n 0, 1) := by decide +kernel
theorem dX3_init_26 : decode cX3_init 26 = .ok (.getfield 11, 3) := by decide +kernel
theorem dX3_init_29 : decode cX3_init 29 = .ok (.arraylength, 1) := by decide +kernel
theorem dX3_init_30 : decode cX3_init 30 = .ok (.if_icmp .ge 22, 3) := by decide +kernel
theorem dX3_init_33 : decode cX3_init 33 = .ok (.aload_n 0, 1) := by decide +kernel
theorem dX3_init_34 : decode cX3_init 34 = .ok (.getfield 11, 3) := by decide +kernel
theorem dX3_init_37 : decode cX3_init 37 = .ok (.iload_n 1, 1) := by decide +kernel
theorem dX3_init_38 : decode cX3_init 38 = .ok (.new 9, 3) := by decide +kernel
theorem dX3_init_41 : decode cX3_init 41 = .ok (.dup, 1) := by decide +kernel
theorem dX3_init_42 : decode cX3_init 42 = .ok (.invokespecial 24, 3) := by decide +kernel
theorem dX3_init_45 : decode cX3_init 45 = .ok (.aastore, 1) := by decide +kernel
theorem dX3_init_46 : decode cX3_init 46 = .ok (.iinc 1 1, 3) := by decide +kernel
theorem dX3_init_49 : decode cX3_init 49 = .ok (.goto (-25), 3) := by decide +kernel
theorem dX3_init_52 : decode cX3_init 52 = .ok (.return_, 1) := by decide +kernel
theorem dX3_push_0 : decode cX3_push 0 = .ok (.aload_n 0, 1) := by decide +kernel
theorem dX3_push_1 : decode cX3_push 1 = .ok (.aload_n 0, 1) := by decide +kernel
theorem dX3_push_2 : decode cX3_push 2 = .ok (.getfield 21, 3) := by decide +kernel
theorem dX3_push_5 : decode cX3_push 5 = .ok (.invokevirtual 25, 3) := by decide +kernel
theorem dX3_push_8 : decode cX3_push 8 = .ok (.astore_n 2, 1) := by decide +kernel
theorem dX3_push_9 : decode cX3_push 9 = .ok (.aload_n 2, 1) := by decide +kernel
theorem dX3_push_10 : decode cX3_push 10 = .ok (.ifnonnull 4, 3) := by decide +kernel
theorem dX3_push_13 : decode cX3_push 13 = .ok (.return_, 1) := by decide +kernel
theorem dX3_push_14 : decode cX3_push 14 = .ok (.aload_n 2, 1) := by decide +kernel
theorem dX3_push_15 : decode cX3_push 15 = .ok (.aload_n 1, 1) := by decide +kernel
theorem dX3_push_16 : decode cX3_push 16 = .ok (.invokevirtual 29, 3) := by decide +kernel
theorem dX3_push_19 : decode cX3_push 19 = .ok (.aload_n 0, 1) := by decide +kernel
theorem dX3_push_20 : decode cX3_push 20 = .ok (.getfield 21, 3) := by decide +kernel
theorem dX3_push_23 : decode cX3_push 23 = .ok (.iconst 4, 1) := by decide +kernel
theorem dX3_push_24 : decode cX3_push 24 = .ok (.if_icmp .ge 16, 3) := by decide +kernel
theorem dX3_push_27 : decode cX3_push 27 = .ok (.aload_n 0, 1) := by decide +kernel
theorem dX3_push_28 : decode cX3_push 28 = .ok (.dup, 1) := by decide +kernel
theorem dX3_push_29 : decode cX3_push 29 = .ok (.getfield 21, 3) := by decide +kernel
theorem dX3_push_32 : decode cX3_push 32 = .ok (.iconst 1, 1) := by decide +kernel
theorem dX3_push_33 : decode cX3_push 33 = .ok (.iadd, 1) := by decide +kernel
theorem dX3_push_34 : decode cX3_push 34 = .ok (.putfield 21, 3) := by decide +kernel
theorem dX3_push_37 : decode cX3_push 37 = .ok (.goto 15, 3) := by decide +kernel
theorem dX3_push_40 : decode cX3_push 40 = .ok (.aload_n 0, 1) := by decide +kernel
theorem dX3_push_41 : decode cX3_push 41 = .ok (.aload_n 0, 1) := by decide +kernel
theorem dX3_push_42 : decode cX3_push 42 = .ok (.getfield 17, 3) := by decide +kernel
theorem dX3_push_45 : decode cX3_push 45 = .ok (.iconst 1, 1) := by decide +kernel
theorem dX3_push_46 : decode cX3_push 46 = .ok (.iadd, 1) := by decide +kernel
theorem dX3_push_47 : decode cX3_push 47 = .ok (.iconst 4, 1) := by decide +kernel
theorem dX3_push_48 : decode cX3_push 48 = .ok (.irem, 1) := by decide +kernel
theorem dX3_push_49 : decode cX3_push 49 = .ok (.putfield 17, 3) := by decide +kernel
theorem dX3_push_52 : decode cX3_push 52 = .ok (.return_, 1) := by decide +kernel
theorem dX3_popInto_0 : decode cX3_popInto 0 = .ok (.aload_n 0, 1) := by decide +kernel
theorem dX3_popInto_1 : decode cX3_popInto 1 = .ok (.aload_n 0, 1) := by decide +kernel
theorem dX3_popInto_2 : decode cX3_popInto 2 = .ok (.getfield 21, 3) := by decide +kernel
theorem dX3_popInto_5 : decode cX3_popInto 5 = .ok (.iconst 1, 1) := by decide +kernel
theorem dX3_popInto_6 : decode cX3_popInto 6 = .ok (.isub, 1) := by decide +kernel
theorem dX3_popInto_7 : decode cX3_popInto 7 = .ok (.invokevirtual 25, 3) := by decide +kernel
theorem dX3_popInto_10 : decode cX3_popInto 10 = .ok (.astore_n 2, 1) := by decide +kernel
theorem dX3_popInto_11 : decode cX3_popInto 11 = .ok (.aload_n 0, 1) := by decide +kernel
theorem dX3_popInto_12 : decode cX3_popInto 12 = .ok (.getfield 21, 3) := by decide +kernel
theorem dX3_popInto_15 : decode cX3_popInto 15 = .ok (.ifCond .eq 7, 3) := by decide +kernel
theorem dX3_popInto_18 : decode cX3_popInto 18 = .ok (.aload_n 2, 1) := by decide +kernel
theorem dX3_popInto_19 : decode cX3_popInto 19 = .ok (.ifnonnull 4, 3) := by decide +kernel
theorem dX3_popInto_22 : decode cX3_popInto 22 = .ok (.return_, 1) := by decide +kernel
theorem dX3_popInto_23 : decode cX3_popInto 23 = .ok (.aload_n 1, 1) := by decide +kernel
theorem dX3_popInto_24 : decode cX3_popInto 24 = .ok (.aload_n 2, 1) := by decide +kernel
theorem dX3_popInto_25 : decode cX3_popInto 25 = .ok (.invokevirtual 29, 3) := by decide +kernel
theorem dX3_popInto_28 : decode cX3_popInto 28 = .ok (.aload_n 0, 1) := by decide +kernel
theorem dX3_popInto_29 : decode cX3_popInto 29 = .ok (.dup, 1) := by decide +kernel
theorem dX3_popInto_30 : decode cX3_popInto 30 = .ok (.getfield 21, 3) := by decide +kernel
theorem dX3_popInto_33 : decode cX3_popInto 33 = .ok (.iconst 1, 1) := by decide +kernel
theorem dX3_popInto_34 : decode cX3_popInto 34 = .ok (.isub, 1) := by decide +kernel
theorem dX3_popInto_35 : decode cX3_popInto 35 = .ok (.putfield 21, 3) := by decide +kernel
theorem dX3_popInto_38 : decode cX3_popInto 38 = .ok (.return_, 1) := by decide +kernel
theorem dX3_stateAt_0 : decode cX3_stateAt 0 = .ok (.aload_n 0, 1) := by decide +kernel
theorem dX3_stateAt_1 : decode cX3_stateAt 1 = .ok (.getfield 17, 3) := by decide +kernel
theorem dX3_stateAt_4 : decode cX3_stateAt 4 = .ok (.iload_n 1, 1) := by decide +kernel
theorem dX3_stateAt_5 : decode cX3_stateAt 5 = .ok (.iadd, 1) := by decide +kernel
theorem dX3_stateAt_6 : decode cX3_stateAt 6 = .ok (.iconst 4, 1) := by decide +kernel
theorem dX3_stateAt_7 : decode cX3_stateAt 7 = .ok (.invokestatic 33, 3) := by decide +kernel
theorem dX3_stateAt_10 : decode cX3_stateAt 10 = .ok (.istore_n 2, 1) := by decide +kernel
theorem dX3_stateAt_11 : decode cX3_stateAt 11 = .ok (.iload_n 2, 1) := by decide +kernel
theorem dX3_stateAt_12 : decode cX3_stateAt 12 = .ok (.ifCond .lt 12, 3) := by decide +kernel
theorem dX3_stateAt_15 : decode cX3_stateAt 15 = .ok (.iload_n 2, 1) := by decide +kernel
theorem dX3_stateAt_16 : decode cX3_stateAt 16 = .ok (.aload_n 0, 1) := by decide +kernel
theorem dX3_stateAt_17 : decode cX3_stateAt 17 = .ok (.getfield 11, 3) := by decide +kernel
theorem dX3_stateAt_20 : decode cX3_stateAt 20 = .ok (.arraylength, 1) := by decide +kernel
theorem dX3_stateAt_21 : decode cX3_stateAt 21 = .ok (.if_icmp .lt 7, 3) := by decide +kernel
theorem dX3_stateAt_24 : decode cX3_stateAt 24 = .ok (.aconst_null, 1) := by decide +kernel
theorem dX3_stateAt_25 : decode cX3_stateAt 25 = .ok (.goto 9, 3) := by decide +kernel
theorem dX3_stateAt_28 : decode cX3_stateAt 28 = .ok (.aload_n 0, 1) := by decide +kernel
theorem dX3_stateAt_29 : decode cX3_stateAt 29 = .ok (.getfield 11, 3) := by decide +kernel
theorem dX3_stateAt_32 : decode cX3_stateAt 32 = .ok (.iload_n 2, 1) := by decide +kernel
theorem dX3_stateAt_33 : decode cX3_stateAt 33 = .ok (.aaload, 1) := by decide +kernel
theorem dX3_stateAt_34 : decode cX3_stateAt 34 = .ok (.areturn, 1) := by decide +kernel
theorem dX4_init_0 : decode cX4_init 0 = .ok (.aload_n 0, 1) := by decide +kernel
theorem dX4_init_1 : decode cX4_init 1 = .ok (.invokespecial 3, 3) := by decide +kernel
theorem dX4_init_4 : decode cX4_init 4 = .ok (.aload_n 0, 1) := by decide +kernel
theorem dX4_init_5 : decode cX4_init 5 = .ok (.bipush 16, 2) := by decide +kernel
theorem dX4_init_7 : decode cX4_init 7 = .ok (.bipush 16, 2) := by decide +kernel
theorem dX4_init_9 : decode cX4_init 9 = .ok (.multianewarray 9 2, 4) := by decide +kernel
theorem dX4_init_13 : decode cX4_init 13 = .ok (.putfield 11, 3) := by decide +kernel
theorem dX4_init_16 : decode cX4_init 16 = .ok (.return_, 1) := by decide +kernel
theorem dX4_fill_0 : decode cX4_fill 0 = .ok (.iconst 0, 1) := by decide +kernel
theorem dX4_fill_1 : decode cX4_fill 1 = .ok (.istore 4, 2) := by decide +kernel
theorem dX4_fill_3 : decode cX4_fill 3 = .ok (.iload 4, 2) := by decide +kernel
theorem dX4_fill_5 : decode cX4_fill 5 = .ok (.iload_n 2, 1) := by decide +kernel
theorem dX4_fill_6 : decode cX4_fill 6 = .ok (.if_icmp .gt 24, 3) := by decide +kernel
theorem dX4_fill_9 : decode cX4_fill 9 = .ok (.iload 4, 2) := by decide +kernel
theorem dX4_fill_11 : decode cX4_fill 11 = .ok (.bipush 16, 2) := by decide +kernel
theorem dX4_fill_13 : decode cX4_fill 13 = .ok (.if_icmp .ge 17, 3) := by decide +kernel
theorem dX4_fill_16 : decode cX4_fill 16 = .ok (.aload_n 0, 1) := by decide +kernel
theorem dX4_fill_17 : decode cX4_fill 17 = .ok (.aload_n 1, 1) := by decide +kernel
theorem dX4_fill_18 : decode cX4_fill 18 = .ok (.iload 4, 2) := by decide +kernel
theorem dX4_fill_20 : decode cX4_fill 20 = .ok (.iload_n 3, 1) := by decide +kernel
theorem dX4_fill_21 : decode cX4_fill 21 = .ok (.invokevirtual 16, 3) := by decide +kernel
theorem dX4_fill_24 : decode cX4_fill 24 = .ok (.iinc 4 1, 3) := by decide +kernel
theorem dX4_fill_27 : decode cX4_fill 27 = .ok (.goto (-24), 3) := by decide +kernel
theorem dX4_fill_30 : decode cX4_fill 30 = .ok (.return_, 1) := by decide +kernel
theorem dX4_refill_0 : decode cX4_refill 0 = .ok (.iload_n 2, 1) := by decide +kernel
theorem dX4_refill_1 : decode cX4_refill 1 = .ok (.istore 5, 2) := by decide +kernel
theorem dX4_refill_3 : decode cX4_refill 3 = .ok (.iload 5, 2) := by decide +kernel
theorem dX4_refill_5 : decode cX4_refill 5 = .ok (.iload_n 3, 1) := by decide +kernel
theorem dX4_refill_6 : decode cX4_refill 6 = .ok (.if_icmp .gt 40, 3) := by decide +kernel
theorem dX4_refill_9 : decode cX4_refill 9 = .ok (.iload 5, 2) := by decide +kernel
theorem dX4_refill_11 : decode cX4_refill 11 = .ok (.bipush 16, 2) := by decide +kernel
theorem dX4_refill_13 : decode cX4_refill 13 = .ok (.if_icmp .ge 33, 3) := by decide +kernel
theorem dX4_refill_16 : decode cX4_refill 16 = .ok (.iload 5, 2) := by decide +kernel
theorem dX4_refill_18 : decode cX4_refill 18 = .ok (.iload_n 2, 1) := by decide +kernel
theorem dX4_refill_19 : decode cX4_refill 19 = .ok (.if_icmp .eq 12, 3) := by decide +kernel
theorem dX4_refill_22 : decode cX4_refill 22 = .ok (.aload_n 1, 1) := by decide +kernel
theorem dX4_refill_23 : decode cX4_refill 23 = .ok (.iload 5, 2) := by decide +kernel
theorem dX4_refill_25 : decode cX4_refill 25 = .ok (.invokevirtual 20, 3) := by decide +kernel
theorem dX4_refill_28 : decode cX4_refill 28 = .ok (.ifCond .eq 12, 3) := by decide +kernel
theorem dX4_refill_31 : decode cX4_refill 31 = .ok (.aload_n 0, 1) := by decide +kernel
theorem dX4_refill_32 : decode cX4_refill 32 = .ok (.aload_n 1, 1) := by decide +kernel
theorem dX4_refill_33 : decode cX4_refill 33 = .ok (.iload 5, 2) := by decide +kernel
theorem dX4_refill_35 : decode cX4_refill 35 = .ok (.iload 4, 2) := by decide +kernel
theorem dX4_refill_37 : decode cX4_refill 37 = .ok (.invokevirtual 16, 3) := by decide +kernel
theorem dX4_refill_40 : decode cX4_refill 40 = .ok (.iinc 5 1, 3) := by decide +kernel
theorem dX4_refill_43 : decode cX4_refill 43 = .ok (.goto (-40), 3) := by decide +kernel
theorem dX4_refill_46 : decode cX4_refill 46 = .ok (.return_, 1) := by decide +kernel
theorem dX4_fillRow_0 : decode cX4_fillRow 0 = .ok (.iload_n 3, 1) := by decide +kernel
theorem dX4_fillRow_1 : decode cX4_fillRow 1 = .ok (.bipush 64, 2) := by decide +kernel
theorem dX4_fillRow_3 : decode cX4_fillRow 3 = .ok (.iadd, 1) := by decide +kernel
theorem dX4_fillRow_4 : decode cX4_fillRow 4 = .ok (.iconst 1, 1) := by decide +kernel
theorem dX4_fillRow_5 : decode cX4_fillRow 5 = .ok (.isub, 1) := by decide +kernel
theorem dX4_fillRow_6 : decode cX4_fillRow 6 = .ok (.bipush 64, 2) := by decide +kernel
theorem dX4_fillRow_8 : decode cX4_fillRow 8 = .ok (.idiv, 1) := by decide +kernel
theorem dX4_fillRow_9 : decode cX4_fillRow 9 = .ok (.istore 4, 2) := by decide +kernel
theorem dX4_fillRow_11 : decode cX4_fillRow 11 = .ok (.aload_n 1, 1) := by decide +kernel
theorem dX4_fillRow_12 : decode cX4_fillRow 12 = .ok (.iload_n 2, 1) := by decide +kernel
theorem dX4_fillRow_13 : decode cX4_fillRow 13 = .ok (.invokevirtual 20, 3) := by decide +kernel
theorem dX4_fillRow_16 : decode cX4_fillRow 16 = .ok (.ifCond .ne 23, 3) := by decide +kernel
theorem dX4_fillRow_19 : decode cX4_fillRow 19 = .ok (.aload_n 0, 1) := by decide +kernel
theorem dX4_fillRow_20 : decode cX4_fillRow 20 = .ok (.iload_n 2, 1) := by decide +kernel
theorem dX4_fillRow_21 : decode cX4_fillRow 21 = .ok (.aload_n 1, 1) := by decide +kernel
theorem dX4_fillRow_22 : decode cX4_fillRow 22 = .ok (.iload_n 2, 1) := by decide +kernel
theorem dX4_fillRow_23 : decode cX4_fillRow 23 = .ok (.iconst 1, 1) := by decide +kernel
theorem dX4_fillRow_24 : decode cX4_fillRow 24 = .ok (.invokevirtual 26, 3) := by decide +kernel
theorem dX4_fillRow_27 : decode cX4_fillRow 27 = .ok (.aload_n 1, 1) := by decide +kernel
theorem dX4_fillRow_28 : decode cX4_fillRow 28 = .ok (.iload_n 2, 1) := by decide +kernel
theorem dX4_fillRow_29 : decode cX4_fillRow 29 = .ok (.iconst 2, 1) := by decide +kernel
theorem dX4_fillRow_30 : decode cX4_fillRow 30 = .ok (.invokevirtual 26, 3) := by decide +kernel
theorem dX4_fillRow_33 : decode cX4_fillRow 33 = .ok (.iload 4, 2) := by decide +kernel
theorem dX4_fillRow_35 : decode cX4_fillRow 35 = .ok (.invokevirtual 30, 3) := by decide +kernel
theorem dX4_fillRow_38 : decode cX4_fillRow 38 = .ok (.return_, 1) := by decide +kernel
theorem dX4_fillRow_39 : decode cX4_fillRow 39 = .ok (.iconst 0, 1) := by decide +kernel
theorem dX4_fillRow_40 : decode cX4_fillRow 40 = .ok (.istore 5, 2) := by decide +kernel
theorem dX4_fillRow_42 : decode cX4_fillRow 42 = .ok (.iload 5, 2) := by decide +kernel
theorem dX4_fillRow_44 : decode cX4_fillRow 44 = .ok (.iload 4, 2) := by decide +kernel
theorem dX4_fillRow_46 : decode cX4_fillRow 46 = .ok (.if_icmp .ge 24, 3) := by decide +kernel
theorem dX4_fillRow_49 : decode cX4_fillRow 49 = .ok (.aload_n 0, 1) := by decide +kernel
theorem dX4_fillRow_50 : decode cX4_fillRow 50 = .ok (.iload_n 2, 1) := by decide +kernel
theorem dX4_fillRow_51 : decode cX4_fillRow 51 = .ok (.iload 5, 2) := by decide +kernel
theorem dX4_fillRow_53 : decode cX4_fillRow 53 = .ok (.aload_n 0, 1) := by decide +kernel
theorem dX4_fillRow_54 : decode cX4_fillRow 54 = .ok (.aload_n 1, 1) := by decide +kernel
theorem dX4_fillRow_55 : decode cX4_fillRow 55 = .ok (.iload_n 2, 1) := by decide +kernel
theorem dX4_fillRow_56 : decode cX4_fillRow 56 = .ok (.iload 5, 2) := by decide +kernel
theorem dX4_fillRow_58 : decode cX4_fillRow 58 = .ok (.invokevirtual 34, 3) := by decide +kernel
theorem dX4_fillRow_61 : decode cX4_fillRow 61 = .ok (.invokevirtual 38, 3) := by decide +kernel
theorem dX4_fillRow_64 : decode cX4_fillRow 64 = .ok (.iinc 5 1, 3) := by decide +kernel
theorem dX4_fillRow_67 : decode cX4_fillRow 67 = .ok (.goto (-25), 3) := by decide +kernel
theorem dX4_fillRow_70 : decode cX4_fillRow 70 = .ok (.return_, 1) := by decide +kernel
theorem dX4_fillSource_0 : decode cX4_fillSource 0 = .ok (.iload_n 3, 1) := by decide +kernel
theorem dX4_fillSource_1 : decode cX4_fillSource 1 = .ok (.istore 5, 2) := by decide +kernel
theorem dX4_fillSource_3 : decode cX4_fillSource 3 = .ok (.iconst 0, 1) := by decide +kernel
theorem dX4_fillSource_4 : decode cX4_fillSource 4 = .ok (.istore 6, 2) := by decide +kernel
theorem dX4_fillSource_6 : decode cX4_fillSource 6 = .ok (.iload 6, 2) := by decide +kernel
theorem dX4_fillSource_8 : decode cX4_fillSource 8 = .ok (.iload 4, 2) := by decide +kernel
theorem dX4_fillSource_10 : decode cX4_fillSource 10 = .ok (.if_icmp .ge 59, 3) := by decide +kernel
theorem dX4_fillSource_13 : decode cX4_fillSource 13 = .ok (.lconst 0, 1) := by decide +kernel
theorem dX4_fillSource_14 : decode cX4_fillSource 14 = .ok (.lstore 7, 2) := by decide +kernel
theorem dX4_fillSource_16 : decode cX4_fillSource 16 = .ok (.iconst 0, 1) := by decide +kernel
theorem dX4_fillSource_17 : decode cX4_fillSource 17 = .ok (.istore 9, 2) := by decide +kernel
theorem dX4_fillSource_19 : decode cX4_fillSource 19 = .ok (.iload 9, 2) := by decide +kernel
theorem dX4_fillSource_21 : decode cX4_fillSource 21 = .ok (.bipush 64, 2) := by decide +kernel
theorem dX4_fillSource_23 : decode cX4_fillSource 23 = .ok (.if_icmp .ge 31, 3) := by decide +kernel
theorem dX4_fillSource_26 : decode cX4_fillSource 26 = .ok (.iload 5, 2) := by decide +kernel
theorem dX4_fillSource_28 : decode cX4_fillSource 28 = .ok (.iload_n 2, 1) := by decide +kernel
theorem dX4_fillSource_29 : decode cX4_fillSource 29 = .ok (.if_icmp .gt 12, 3) := by decide +kernel
theorem dX4_fillSource_32 : decode cX4_fillSource 32 = .ok (.lload 7, 2) := by decide +kernel
theorem dX4_fillSource_34 : decode cX4_fillSource 34 = .ok (.lconst 1, 1) := by decide +kernel
theorem dX4_fillSource_35 : decode cX4_fillSource 35 = .ok (.iload 9, 2) := by decide +kernel
theorem dX4_fillSource_37 : decode cX4_fillSource 37 = .ok (.lshl, 1) := by decide +kernel
theorem dX4_fillSource_38 : decode cX4_fillSource 38 = .ok (.lor, 1) := by decide +kernel
theorem dX4_fillSource_39 : decode cX4_fillSource 39 = .ok (.lstore 7, 2) := by decide +kernel
theorem dX4_fillSource_41 : decode cX4_fillSource 41 = .ok (.iload 5, 2) := by decide +kernel
theorem dX4_fillSource_43 : decode cX4_fillSource 43 = .ok (.invokestatic 42, 3) := by decide +kernel
theorem dX4_fillSource_46 : decode cX4_fillSource 46 = .ok (.istore 5, 2) := by decide +kernel
theorem dX4_fillSource_48 : decode cX4_fillSource 48 = .ok (.iinc 9 1, 3) := by decide +kernel
theorem dX4_fillSource_51 : decode cX4_fillSource 51 = .ok (.goto (-32), 3) := by decide +kernel
theorem dX4_fillSource_54 : decode cX4_fillSource 54 = .ok (.aload_n 0, 1) := by decide +kernel
theorem dX4_fillSource_55 : decode cX4_fillSource 55 = .ok (.iload_n 1, 1) := by decide +kernel
theorem dX4_fillSource_56 : decode cX4_fillSource 56 = .ok (.iload 6, 2) := by decide +kernel
theorem dX4_fillSource_58 : decode cX4_fillSource 58 = .ok (.lload 7, 2) := by decide +kernel
theorem dX4_fillSource_60 : decode cX4_fillSource 60 = .ok (.invokevirtual 38, 3) := by decide +kernel
theorem dX4_fillSource_63 : decode cX4_fillSource 63 = .ok (.iinc 6 1, 3) := by decide +kernel
theorem dX4_fillSource_66 : decode cX4_fillSource 66 = .ok (.goto (-60), 3) := by decide +kernel
theorem dX4_fillSource_69 : decode cX4_fillSource 69 = .ok (.return_, 1) := by decide +kernel
theorem dX4_nextRegister_0 : decode cX4_nextRegister 0 = .ok (.iload_n 0, 1) := by decide +kernel
theorem dX4_nextRegister_1 : decode cX4_nextRegister 1 = .ok (.iconst 2, 1) := by decide +kernel
theorem dX4_nextRegister_2 : decode cX4_nextRegister 2 = .ok (.imul, 1) := by decide +kernel
theorem dX4_nextRegister_3 : decode cX4_nextRegister 3 = .ok (.istore_n 1, 1) := by decide +kernel
theorem dX4_nextRegister_4 : decode cX4_nextRegister 4 = .ok (.iload_n 1, 1) := by decide +kernel
theorem dX4_nextRegister_5 : decode cX4_nextRegister 5 = .ok (.sipush 256, 3) := by decide +kernel
theorem dX4_nextRegister_8 : decode cX4_nextRegister 8 = .ok (.if_icmp .ge 7, 3) := by decide +kernel
theorem dX4_nextRegister_11 : decode cX4_nextRegister 11 = .ok (.iload_n 1, 1) := by decide +kernel
theorem dX4_nextRegister_12 : decode cX4_nextRegister 12 = .ok (.goto 11, 3) := by decide +kernel
theorem dX4_nextRegister_15 : decode cX4_nextRegister 15 = .ok (.iload_n 1, 1) := by decide +kernel
theorem dX4_nextRegister_16 : decode cX4_nextRegister 16 = .ok (.sipush 256, 3) := by decide +kernel
theorem dX4_nextRegister_19 : decode cX4_nextRegister 19 = .ok (.isub, 1) := by decide +kernel
theorem dX4_nextRegister_20 : decode cX4_nextRegister 20 = .ok (.bipush 29, 2) := by decide +kernel
theorem dX4_nextRegister_22 : decode cX4_nextRegister 22 = .ok (.ixor, 1) := by decide +kernel
theorem dX4_nextRegister_23 : decode cX4_nextRegister 23 = .ok (.ireturn, 1) := by decide +kernel
theorem dX4_madeWord_0 : decode cX4_madeWord 0 = .ok (.aload_n 1, 1) := by decide +kernel
theorem dX4_madeWord_1 : decode cX4_madeWord 1 = .ok (.iload_n 2, 1) := by decide +kernel
theorem dX4_madeWord_2 : decode cX4_madeWord 2 = .ok (.iconst 1, 1) := by decide +kernel
theorem dX4_madeWord_3 : decode cX4_madeWord 3 = .ok (.invokevirtual 26, 3) := by decide +kernel
theorem dX4_madeWord_6 : decode cX4_madeWord 6 = .ok (.istore 4, 2) := by decide +kernel
theorem dX4_madeWord_8 : decode cX4_madeWord 8 = .ok (.aload_n 1, 1) := by decide +kernel
theorem dX4_madeWord_9 : decode cX4_madeWord 9 = .ok (.iload_n 2, 1) := by decide +kernel
theorem dX4_madeWord_10 : decode cX4_madeWord 10 = .ok (.iconst 2, 1) := by decide +kernel
theorem dX4_madeWord_11 : decode cX4_madeWord 11 = .ok (.invokevirtual 26, 3) := by decide +kernel
theorem dX4_madeWord_14 : decode cX4_madeWord 14 = .ok (.istore 5, 2) := by decide +kernel
theorem dX4_madeWord_16 : decode cX4_madeWord 16 = .ok (.aload_n 0, 1) := by decide +kernel
theorem dX4_madeWord_17 : decode cX4_madeWord 17 = .ok (.iload 4, 2) := by decide +kernel
theorem dX4_madeWord_19 : decode cX4_madeWord 19 = .ok (.iload_n 3, 1) := by decide +kernel
theorem dX4_madeWord_20 : decode cX4_madeWord 20 = .ok (.invokevirtual 45, 3) := by decide +kernel
theorem dX4_madeWord_23 : decode cX4_madeWord 23 = .ok (.lstore 6, 2) := by decide +kernel
theorem dX4_madeWord_25 : decode cX4_madeWord 25 = .ok (.aload_n 1, 1) := by decide +kernel
theorem dX4_madeWord_26 : decode cX4_madeWord 26 = .ok (.iload_n 2, 1) := by decide +kernel
theorem dX4_madeWord_27 : decode cX4_madeWord 27 = .ok (.invokevirtual 20, 3) := by decide +kernel
theorem dX4_madeWord_30 : decode cX4_madeWord 30 = .ok (.tableswitch 108 1 5 #[34, 45, 56, 67, 101], 34) := by decide +kernel
theorem dX4_madeWord_64 : decode cX4_madeWord 64 = .ok (.lload 6, 2) := by decide +kernel
theorem dX4_madeWord_66 : decode cX4_madeWord 66 = .ok (.aload_n 0, 1) := by decide +kernel
theorem dX4_madeWord_67 : decode cX4_madeWord 67 = .ok (.iload 5, 2) := by decide +kernel
theorem dX4_madeWord_69 : decode cX4_madeWord 69 = .ok (.iload_n 3, 1) := by decide +kernel
theorem dX4_madeWord_70 : decode cX4_madeWord 70 = .ok (.invokevirtual 45, 3) := by decide +kernel
theorem dX4_madeWord_73 : decode cX4_madeWord 73 = .ok (.land, 1) := by decide +kernel
theorem dX4_madeWord_74 : decode cX4_madeWord 74 = .ok (.lreturn, 1) := by decide +kernel
theorem dX4_madeWord_75 : decode cX4_madeWord 75 = .ok (.lload 6, 2) := by decide +kernel
theorem dX4_madeWord_77 : decode cX4_madeWord 77 = .ok (.aload_n 0, 1) := by decide +kernel
theorem dX4_madeWord_78 : decode cX4_madeWord 78 = .ok (.iload 5, 2) := by decide +kernel
theorem dX4_madeWord_80 : decode cX4_madeWord 80 = .ok (.iload_n 3, 1) := by decide +kernel
theorem dX4_madeWord_81 : decode cX4_madeWord 81 = .ok (.invokevirtual 45, 3) := by decide +kernel
theorem dX4_madeWord_84 : decode cX4_madeWord 84 = .ok (.lor, 1) := by decide +kernel
theorem dX4_madeWord_85 : decode cX4_madeWord 85 = .ok (.lreturn, 1) := by decide +kernel
theorem dX4_madeWord_86 : decode cX4_madeWord 86 = .ok (.lload 6, 2) := by decide +kernel
theorem dX4_madeWord_88 : decode cX4_madeWord 88 = .ok (.aload_n 0, 1) := by decide +kernel
theorem dX4_madeWord_89 : decode cX4_madeWord 89 = .ok (.iload 5, 2) := by decide +kernel
theorem dX4_madeWord_91 : decode cX4_madeWord 91 = .ok (.iload_n 3, 1) := by decide +kernel
theorem dX4_madeWord_92 : decode cX4_madeWord 92 = .ok (.invokevirtual 45, 3) := by decide +kernel
theorem dX4_madeWord_95 : decode cX4_madeWord 95 = .ok (.lxor, 1) := by decide +kernel
theorem dX4_madeWord_96 : decode cX4_madeWord 96 = .ok (.lreturn, 1) := by decide +kernel
theorem dX4_madeWord_97 : decode cX4_madeWord 97 = .ok (.aload_n 0, 1) := by decide +kernel
theorem dX4_madeWord_98 : decode cX4_madeWord 98 = .ok (.aload_n 1, 1) := by decide +kernel
theorem dX4_madeWord_99 : decode cX4_madeWord 99 = .ok (.iload_n 2, 1) := by decide +kernel
theorem dX4_madeWord_100 : decode cX4_madeWord 100 = .ok (.iconst 3, 1) := by decide +kernel
theorem dX4_madeWord_101 : decode cX4_madeWord 101 = .ok (.invokevirtual 26, 3) := by decide +kernel
theorem dX4_madeWord_104 : decode cX4_madeWord 104 = .ok (.iload_n 3, 1) := by decide +kernel
theorem dX4_madeWord_105 : decode cX4_madeWord 105 = .ok (.invokevirtual 45, 3) := by decide +kernel
theorem dX4_madeWord_108 : decode cX4_madeWord 108 = .ok (.lstore 8, 2) := by decide +kernel
theorem dX4_madeWord_110 : decode cX4_madeWord 110 = .ok (.lload 6, 2) := by decide +kernel
theorem dX4_madeWord_112 : decode cX4_madeWord 112 = .ok (.lload 8, 2) := by decide +kernel
theorem dX4_madeWord_114 : decode cX4_madeWord 114 = .ok (.land, 1) := by decide +kernel
theorem dX4_madeWord_115 : decode cX4_madeWord 115 = .ok (.aload_n 0, 1) := by decide +kernel
theorem dX4_madeWord_116 : decode cX4_madeWord 116 = .ok (.iload 5, 2) := by decide +kernel
theorem dX4_madeWord_118 : decode cX4_madeWord 118 = .ok (.iload_n 3, 1) := by decide +kernel
theorem dX4_madeWord_119 : decode cX4_madeWord 119 = .ok (.invokevirtual 45, 3) := by decide +kernel
theorem dX4_madeWord_122 : decode cX4_madeWord 122 = .ok (.lload 8, 2) := by decide +kernel
theorem dX4_madeWord_124 : decode cX4_madeWord 124 = .ok (.ldc2_w 49, 3) := by decide +kernel
theorem dX4_madeWord_127 : decode cX4_madeWord 127 = .ok (.lxor, 1) := by decide +kernel
theorem dX4_madeWord_128 : decode cX4_madeWord 128 = .ok (.land, 1) := by decide +kernel
theorem dX4_madeWord_129 : decode cX4_madeWord 129 = .ok (.lor, 1) := by decide +kernel
theorem dX4_madeWord_130 : decode cX4_madeWord 130 = .ok (.lreturn, 1) := by decide +kernel
theorem dX4_madeWord_131 : decode cX4_madeWord 131 = .ok (.lload 6, 2) := by decide +kernel
theorem dX4_madeWord_133 : decode cX4_madeWord 133 = .ok (.ldc2_w 49, 3) := by decide +kernel
theorem dX4_madeWord_136 : decode cX4_madeWord 136 = .ok (.lxor, 1) := by decide +kernel
theorem dX4_madeWord_137 : decode cX4_madeWord 137 = .ok (.lreturn, 1) := by decide +kernel
theorem dX4_madeWord_138 : decode cX4_madeWord 138 = .ok (.lload 6, 2) := by decide +kernel
theorem dX4_madeWord_140 : decode cX4_madeWord 140 = .ok (.iload 5, 2) := by decide +kernel
theorem dX4_madeWord_142 : decode cX4_madeWord 142 = .ok (.lshl, 1) := by decide +kernel
theorem dX4_madeWord_143 : decode cX4_madeWord 143 = .ok (.aload_n 0, 1) := by decide +kernel
theorem dX4_madeWord_144 : decode cX4_madeWord 144 = .ok (.iload 4, 2) := by decide +kernel
theorem dX4_madeWord_146 : decode cX4_madeWord 146 = .ok (.iload_n 3, 1) := by decide +kernel
theorem dX4_madeWord_147 : decode cX4_madeWord 147 = .ok (.iconst 1, 1) := by decide +kernel
theorem dX4_madeWord_148 : decode cX4_madeWord 148 = .ok (.isub, 1) := by decide +kernel
theorem dX4_madeWord_149 : decode cX4_madeWord 149 = .ok (.invokevirtual 45, 3) := by decide +kernel
theorem dX4_madeWord_152 : decode cX4_madeWord 152 = .ok (.bipush 64, 2) := by decide +kernel
theorem dX4_madeWord_154 : decode cX4_madeWord 154 = .ok (.iload 5, 2) := by decide +kernel
theorem dX4_madeWord_156 : decode cX4_madeWord 156 = .ok (.isub, 1) := by decide +kernel
theorem dX4_madeWord_157 : decode cX4_madeWord 157 = .ok (.lushr, 1) := by decide +kernel
theorem dX4_madeWord_158 : decode cX4_madeWord 158 = .ok (.lor, 1) := by decide +kernel
theorem dX4_madeWord_159 : decode cX4_madeWord 159 = .ok (.lreturn, 1) := by decide +kernel
theorem dX4_bitAt_0 : decode cX4_bitAt 0 = .ok (.aload_n 0, 1) := by decide +kernel
theorem dX4_bitAt_1 : decode cX4_bitAt 1 = .ok (.iload_n 1, 1) := by decide +kernel
theorem dX4_bitAt_2 : decode cX4_bitAt 2 = .ok (.iload_n 2, 1) := by decide +kernel
theorem dX4_bitAt_3 : decode cX4_bitAt 3 = .ok (.bipush 64, 2) := by decide +kernel
theorem dX4_bitAt_5 : decode cX4_bitAt 5 = .ok (.idiv, 1) := by decide +kernel
theorem dX4_bitAt_6 : decode cX4_bitAt 6 = .ok (.invokevirtual 45, 3) := by decide +kernel
theorem dX4_bitAt_9 : decode cX4_bitAt 9 = .ok (.iload_n 2, 1) := by decide +kernel
theorem dX4_bitAt_10 : decode cX4_bitAt 10 = .ok (.bipush 64, 2) := by decide +kernel
theorem dX4_bitAt_12 : decode cX4_bitAt 12 = .ok (.irem, 1) := by decide +kernel
theorem dX4_bitAt_13 : decode cX4_bitAt 13 = .ok (.lushr, 1) := by decide +kernel
theorem dX4_bitAt_14 : decode cX4_bitAt 14 = .ok (.l2i, 1) := by decide +kernel
theorem dX4_bitAt_15 : decode cX4_bitAt 15 = .ok (.iconst 1, 1) := by decide +kernel
theorem dX4_bitAt_16 : decode cX4_bitAt 16 = .ok (.iand, 1) := by decide +kernel
theorem dX4_bitAt_17 : decode cX4_bitAt 17 = .ok (.ireturn, 1) := by decide +kernel
theorem dX4_onesIn_0 : decode cX4_onesIn 0 = .ok (.aload_n 0, 1) := by decide +kernel
theorem dX4_onesIn_1 : decode cX4_onesIn 1 = .ok (.iload_n 1, 1) := by decide +kernel
theorem dX4_onesIn_2 : decode cX4_onesIn 2 = .ok (.iload_n 1, 1) := by decide +kernel
theorem dX4_onesIn_3 : decode cX4_onesIn 3 = .ok (.iload_n 2, 1) := by decide +kernel
theorem dX4_onesIn_4 : decode cX4_onesIn 4 = .ok (.invokevirtual 51, 3) := by decide +kernel
theorem dX4_onesIn_7 : decode cX4_onesIn 7 = .ok (.ireturn, 1) := by decide +kernel
theorem dX4_onesInBoth_0 : decode cX4_onesInBoth 0 = .ok (.iconst 0, 1) := by decide +kernel
theorem dX4_onesInBoth_1 : decode cX4_onesInBoth 1 = .ok (.istore 4, 2) := by decide +kernel
theorem dX4_onesInBoth_3 : decode cX4_onesInBoth 3 = .ok (.iload_n 3, 1) := by decide +kernel
theorem dX4_onesInBoth_4 : decode cX4_onesInBoth 4 = .ok (.bipush 64, 2) := by decide +kernel
theorem dX4_onesInBoth_6 : decode cX4_onesInBoth 6 = .ok (.idiv, 1) := by decide +kernel
theorem dX4_onesInBoth_7 : decode cX4_onesInBoth 7 = .ok (.istore 5, 2) := by decide +kernel
theorem dX4_onesInBoth_9 : decode cX4_onesInBoth 9 = .ok (.iconst 0, 1) := by decide +kernel
theorem dX4_onesInBoth_10 : decode cX4_onesInBoth 10 = .ok (.istore 6, 2) := by decide +kernel
theorem dX4_onesInBoth_12 : decode cX4_onesInBoth 12 = .ok (.iload 6, 2) := by decide +kernel
theorem dX4_onesInBoth_14 : decode cX4_onesInBoth 14 = .ok (.iload 5, 2) := by decide +kernel
theorem dX4_onesInBoth_16 : decode cX4_onesInBoth 16 = .ok (.if_icmp .ge 32, 3) := by decide +kernel
theorem dX4_onesInBoth_19 : decode cX4_onesInBoth 19 = .ok (.iload 4, 2) := by decide +kernel
theorem dX4_onesInBoth_21 : decode cX4_onesInBoth 21 = .ok (.aload_n 0, 1) := by decide +kernel
theorem dX4_onesInBoth_22 : decode cX4_onesInBoth 22 = .ok (.iload_n 1, 1) := by decide +kernel
theorem dX4_onesInBoth_23 : decode cX4_onesInBoth 23 = .ok (.iload 6, 2) := by decide +kernel
theorem dX4_onesInBoth_25 : decode cX4_onesInBoth 25 = .ok (.invokevirtual 45, 3) := by decide +kernel
theorem dX4_onesInBoth_28 : decode cX4_onesInBoth 28 = .ok (.aload_n 0, 1) := by decide +kernel
theorem dX4_onesInBoth_29 : decode cX4_onesInBoth 29 = .ok (.iload_n 2, 1) := by decide +kernel
theorem dX4_onesInBoth_30 : decode cX4_onesInBoth 30 = .ok (.iload 6, 2) := by decide +kernel
theorem dX4_onesInBoth_32 : decode cX4_onesInBoth 32 = .ok (.invokevirtual 45, 3) := by decide +kernel
theorem dX4_onesInBoth_35 : decode cX4_onesInBoth 35 = .ok (.land, 1) := by decide +kernel
theorem dX4_onesInBoth_36 : decode cX4_onesInBoth 36 = .ok (.invokestatic 55, 3) := by decide +kernel
theorem dX4_onesInBoth_39 : decode cX4_onesInBoth 39 = .ok (.iadd, 1) := by decide +kernel
theorem dX4_onesInBoth_40 : decode cX4_onesInBoth 40 = .ok (.istore 4, 2) := by decide +kernel
theorem dX4_onesInBoth_42 : decode cX4_onesInBoth 42 = .ok (.iinc 6 1, 3) := by decide +kernel
theorem dX4_onesInBoth_45 : decode cX4_onesInBoth 45 = .ok (.goto (-33), 3) := by decide +kernel
theorem dX4_onesInBoth_48 : decode cX4_onesInBoth 48 = .ok (.lconst 1, 1) := by decide +kernel
theorem dX4_onesInBoth_49 : decode cX4_onesInBoth 49 = .ok (.iload_n 3, 1) := by decide +kernel
theorem dX4_onesInBoth_50 : decode cX4_onesInBoth 50 = .ok (.bipush 64, 2) := by decide +kernel
theorem dX4_onesInBoth_52 : decode cX4_onesInBoth 52 = .ok (.irem, 1) := by decide +kernel
theorem dX4_onesInBoth_53 : decode cX4_onesInBoth 53 = .ok (.lshl, 1) := by decide +kernel
theorem dX4_onesInBoth_54 : decode cX4_onesInBoth 54 = .ok (.lconst 1, 1) := by decide +kernel
theorem dX4_onesInBoth_55 : decode cX4_onesInBoth 55 = .ok (.lsub, 1) := by decide +kernel
theorem dX4_onesInBoth_56 : decode cX4_onesInBoth 56 = .ok (.lstore 6, 2) := by decide +kernel
theorem dX4_onesInBoth_58 : decode cX4_onesInBoth 58 = .ok (.iload 4, 2) := by decide +kernel
theorem dX4_onesInBoth_60 : decode cX4_onesInBoth 60 = .ok (.aload_n 0, 1) := by decide +kernel
theorem dX4_onesInBoth_61 : decode cX4_onesInBoth 61 = .ok (.iload_n 1, 1) := by decide +kernel
theorem dX4_onesInBoth_62 : decode cX4_onesInBoth 62 = .ok (.iload 5, 2) := by decide +kernel
theorem dX4_onesInBoth_64 : decode cX4_onesInBoth 64 = .ok (.invokevirtual 45, 3) := by decide +kernel
theorem dX4_onesInBoth_67 : decode cX4_onesInBoth 67 = .ok (.aload_n 0, 1) := by decide +kernel
theorem dX4_onesInBoth_68 : decode cX4_onesInBoth 68 = .ok (.iload_n 2, 1) := by decide +kernel
theorem dX4_onesInBoth_69 : decode cX4_onesInBoth 69 = .ok (.iload 5, 2) := by decide +kernel
theorem dX4_onesInBoth_71 : decode cX4_onesInBoth 71 = .ok (.invokevirtual 45, 3) := by decide +kernel
theorem dX4_onesInBoth_74 : decode cX4_onesInBoth 74 = .ok (.land, 1) := by decide +kernel
theorem dX4_onesInBoth_75 : decode cX4_onesInBoth 75 = .ok (.lload 6, 2) := by decide +kernel
theorem dX4_onesInBoth_77 : decode cX4_onesInBoth 77 = .ok (.land, 1) := by decide +kernel
theorem dX4_onesInBoth_78 : decode cX4_onesInBoth 78 = .ok (.invokestatic 55, 3) := by decide +kernel
theorem dX4_onesInBoth_81 : decode cX4_onesInBoth 81 = .ok (.iadd, 1) := by decide +kernel
theorem dX4_onesInBoth_82 : decode cX4_onesInBoth 82 = .ok (.ireturn, 1) := by decide +kernel
theorem dX4_wordAt_0 : decode cX4_wordAt 0 = .ok (.iload_n 1, 1) := by decide +kernel
theorem dX4_wordAt_1 : decode cX4_wordAt 1 = .ok (.ifCond .lt 12, 3) := by decide +kernel
theorem dX4_wordAt_4 : decode cX4_wordAt 4 = .ok (.iload_n 1, 1) := by decide +kernel
theorem dX4_wordAt_5 : decode cX4_wordAt 5 = .ok (.aload_n 0, 1) := by decide +kernel
theorem dX4_wordAt_6 : decode cX4_wordAt 6 = .ok (.getfield 11, 3) := by decide +kernel
theorem dX4_wordAt_9 : decode cX4_wordAt 9 = .ok (.arraylength, 1) := by decide +kernel
theorem dX4_wordAt_10 : decode cX4_wordAt 10 = .ok (.if_icmp .lt 5, 3) := by decide +kernel
theorem dX4_wordAt_13 : decode cX4_wordAt 13 = .ok (.lconst 0, 1) := by decide +kernel
theorem dX4_wordAt_14 : decode cX4_wordAt 14 = .ok (.lreturn, 1) := by decide +kernel
theorem dX4_wordAt_15 : decode cX4_wordAt 15 = .ok (.aload_n 0, 1) := by decide +kernel
theorem dX4_wordAt_16 : decode cX4_wordAt 16 = .ok (.getfield 11, 3) := by decide +kernel
theorem dX4_wordAt_19 : decode cX4_wordAt 19 = .ok (.iload_n 1, 1) := by decide +kernel
theorem dX4_wordAt_20 : decode cX4_wordAt 20 = .ok (.aaload, 1) := by decide +kernel
theorem dX4_wordAt_21 : decode cX4_wordAt 21 = .ok (.astore_n 3, 1) := by decide +kernel
theorem dX4_wordAt_22 : decode cX4_wordAt 22 = .ok (.iload_n 2, 1) := by decide +kernel
theorem dX4_wordAt_23 : decode cX4_wordAt 23 = .ok (.ifCond .lt 9, 3) := by decide +kernel
theorem dX4_wordAt_26 : decode cX4_wordAt 26 = .ok (.iload_n 2, 1) := by decide +kernel
theorem dX4_wordAt_27 : decode cX4_wordAt 27 = .ok (.aload_n 3, 1) := by decide +kernel
theorem dX4_wordAt_28 : decode cX4_wordAt 28 = .ok (.arraylength, 1) := by decide +kernel
theorem dX4_wordAt_29 : decode cX4_wordAt 29 = .ok (.if_icmp .lt 7, 3) := by decide +kernel
theorem dX4_wordAt_32 : decode cX4_wordAt 32 = .ok (.lconst 0, 1) := by decide +kernel
theorem dX4_wordAt_33 : decode cX4_wordAt 33 = .ok (.goto 6, 3) := by decide +kernel
theorem dX4_wordAt_36 : decode cX4_wordAt 36 = .ok (.aload_n 3, 1) := by decide +kernel
theorem dX4_wordAt_37 : decode cX4_wordAt 37 = .ok (.iload_n 2, 1) := by decide +kernel
theorem dX4_wordAt_38 : decode cX4_wordAt 38 = .ok (.laload, 1) := by decide +kernel
theorem dX4_wordAt_39 : decode cX4_wordAt 39 = .ok (.lreturn, 1) := by decide +kernel
theorem dX4_setWord_0 : decode cX4_setWord 0 = .ok (.iload_n 1, 1) := by decide +kernel
theorem dX4_setWord_1 : decode cX4_setWord 1 = .ok (.ifCond .lt 12, 3) := by decide +kernel
theorem dX4_setWord_4 : decode cX4_setWord 4 = .ok (.iload_n 1, 1) := by decide +kernel
theorem dX4_setWord_5 : decode cX4_setWord 5 = .ok (.aload_n 0, 1) := by decide +kernel
theorem dX4_setWord_6 : decode cX4_setWord 6 = .ok (.getfield 11, 3) := by decide +kernel
theorem dX4_setWord_9 : decode cX4_setWord 9 = .ok (.arraylength, 1) := by decide +kernel
theorem dX4_setWord_10 : decode cX4_setWord 10 = .ok (.if_icmp .lt 4, 3) := by decide +kernel
theorem dX4_setWord_13 : decode cX4_setWord 13 = .ok (.return_, 1) := by decide +kernel
theorem dX4_setWord_14 : decode cX4_setWord 14 = .ok (.aload_n 0, 1) := by decide +kernel
theorem dX4_setWord_15 : decode cX4_setWord 15 = .ok (.getfield 11, 3) := by decide +kernel
theorem dX4_setWord_18 : decode cX4_setWord 18 = .ok (.iload_n 1, 1) := by decide +kernel
theorem dX4_setWord_19 : decode cX4_setWord 19 = .ok (.aaload, 1) := by decide +kernel
theorem dX4_setWord_20 : decode cX4_setWord 20 = .ok (.astore 5, 2) := by decide +kernel
theorem dX4_setWord_22 : decode cX4_setWord 22 = .ok (.iload_n 2, 1) := by decide +kernel
theorem dX4_setWord_23 : decode cX4_setWord 23 = .ok (.ifCond .lt 15, 3) := by decide +kernel
theorem dX4_setWord_26 : decode cX4_setWord 26 = .ok (.iload_n 2, 1) := by decide +kernel
theorem dX4_setWord_27 : decode cX4_setWord 27 = .ok (.aload 5, 2) := by decide +kernel
theorem dX4_setWord_29 : decode cX4_setWord 29 = .ok (.arraylength, 1) := by decide +kernel
theorem dX4_setWord_30 : decode cX4_setWord 30 = .ok (.if_icmp .ge 8, 3) := by decide +kernel
theorem dX4_setWord_33 : decode cX4_setWord 33 = .ok (.aload 5, 2) := by decide +kernel
theorem dX4_setWord_35 : decode cX4_setWord 35 = .ok (.iload_n 2, 1) := by decide +kernel
theorem dX4_setWord_36 : decode cX4_setWord 36 = .ok (.lload_n 3, 1) := by decide +kernel
theorem dX4_setWord_37 : decode cX4_setWord 37 = .ok (.lastore, 1) := by decide +kernel
theorem dX4_setWord_38 : decode cX4_setWord 38 = .ok (.return_, 1) := by decide +kernel
theorem dX5_init_0 : decode cX5_init 0 = .ok (.aload_n 0, 1) := by decide +kernel
theorem dX5_init_1 : decode cX5_init 1 = .ok (.invokespecial 1, 3) := by decide +kernel
theorem dX5_init_4 : decode cX5_init 4 = .ok (.aload_n 0, 1) := by decide +kernel
theorem dX5_init_5 : decode cX5_init 5 = .ok (.new 7, 3) := by decide +kernel
theorem dX5_init_8 : decode cX5_init 8 = .ok (.dup, 1) := by decide +kernel
theorem dX5_init_9 : decode cX5_init 9 = .ok (.invokespecial 9, 3) := by decide +kernel
theorem dX5_init_12 : decode cX5_init 12 = .ok (.putfield 10, 3) := by decide +kernel
theorem dX5_init_15 : decode cX5_init 15 = .ok (.aload_n 0, 1) := by decide +kernel
theorem dX5_init_16 : decode cX5_init 16 = .ok (.new 7, 3) := by decide +kernel
theorem dX5_init_19 : decode cX5_init 19 = .ok (.dup, 1) := by decide +kernel
theorem dX5_init_20 : decode cX5_init 20 = .ok (.invokespecial 9, 3) := by decide +kernel
theorem dX5_init_23 : decode cX5_init 23 = .ok (.putfield 16, 3) := by decide +kernel
theorem dX5_init_26 : decode cX5_init 26 = .ok (.aload_n 0, 1) := by decide +kernel
theorem dX5_init_27 : decode cX5_init 27 = .ok (.iconst 0, 1) := by decide +kernel
theorem dX5_init_28 : decode cX5_init 28 = .ok (.putfield 19, 3) := by decide +kernel
theorem dX5_init_31 : decode cX5_init 31 = .ok (.aload_n 0, 1) := by decide +kernel
theorem dX5_init_32 : decode cX5_init 32 = .ok (.new 7, 3) := by decide +kernel
theorem dX5_init_35 : decode cX5_init 35 = .ok (.dup, 1) := by decide +kernel
theorem dX5_init_36 : decode cX5_init 36 = .ok (.invokespecial 9, 3) := by decide +kernel
theorem dX5_init_39 : decode cX5_init 39 = .ok (.putfield 23, 3) := by decide +kernel
theorem dX5_init_42 : decode cX5_init 42 = .ok (.aload_n 0, 1) := by decide +kernel
theorem dX5_init_43 : decode cX5_init 43 = .ok (.new 26, 3) := by decide +kernel
theorem dX5_init_46 : decode cX5_init 46 = .ok (.dup, 1) := by decide +kernel
theorem dX5_init_47 : decode cX5_init 47 = .ok (.invokespecial 28, 3) := by decide +kernel
theorem dX5_init_50 : decode cX5_init 50 = .ok (.putfield 29, 3) := by decide +kernel
theorem dX5_init_53 : decode cX5_init 53 = .ok (.aload_n 0, 1) := by decide +kernel
theorem dX5_init_54 : decode cX5_init 54 = .ok (.new 33, 3) := by decide +kernel
theorem dX5_init_57 : decode cX5_init 57 = .ok (.dup, 1) := by decide +kernel
theorem dX5_init_58 : decode cX5_init 58 = .ok (.invokespecial 35, 3) := by decide +kernel
theorem dX5_init_61 : decode cX5_init 61 = .ok (.putfield 36, 3) := by decide +kernel
theorem dX5_init_64 : decode cX5_init 64 = .ok (.aload_n 0, 1) := by decide +kernel
theorem dX5_init_65 : decode cX5_init 65 = .ok (.new 40, 3) := by decide +kernel
theorem dX5_init_68 : decode cX5_init 68 = .ok (.dup, 1) := by decide +kernel
theorem dX5_init_69 : decode cX5_init 69 = .ok (.invokespecial 42, 3) := by decide +kernel
theorem dX5_init_72 : decode cX5_init 72 = .ok (.putfield 43, 3) := by decide +kernel
theorem dX5_init_75 : decode cX5_init 75 = .ok (.aload_n 0, 1) := by decide +kernel
theorem dX5_init_76 : decode cX5_init 76 = .ok (.new 47, 3) := by decide +kernel
theorem dX5_init_79 : decode cX5_init 79 = .ok (.dup, 1) := by decide +kernel
theorem dX5_init_80 : decode cX5_init 80 = .ok (.invokespecial 49, 3) := by decide +kernel
theorem dX5_init_83 : decode cX5_init 83 = .ok (.putfield 50, 3) := by decide +kernel
theorem dX5_init_86 : decode cX5_init 86 = .ok (.return_, 1) := by decide +kernel
theorem dX5_source_0 : decode cX5_source 0 = .ok (.iload_n 1, 1) := by decide +kernel
theorem dX5_source_1 : decode cX5_source 1 = .ok (.iload_n 2, 1) := by decide +kernel
theorem dX5_source_2 : decode cX5_source 2 = .ok (.invokestatic 54, 3) := by decide +kernel
theorem dX5_source_5 : decode cX5_source 5 = .ok (.ifCond .ne 6, 3) := by decide +kernel
theorem dX5_source_8 : decode cX5_source 8 = .ok (.ldc 58, 2) := by decide +kernel
theorem dX5_source_10 : decode cX5_source 10 = .ok (.ireturn, 1) := by decide +kernel
theorem dX5_source_11 : decode cX5_source 11 = .ok (.aload_n 0, 1) := by decide +kernel
theorem dX5_source_12 : decode cX5_source 12 = .ok (.iconst 0, 1) := by decide +kernel
theorem dX5_source_13 : decode cX5_source 13 = .ok (.iload_n 1, 1) := by decide +kernel
theorem dX5_source_14 : decode cX5_source 14 = .ok (.iload_n 2, 1) := by decide +kernel
theorem dX5_source_15 : decode cX5_source 15 = .ok (.iconst 0, 1) := by decide +kernel
theorem dX5_source_16 : decode cX5_source 16 = .ok (.invokevirtual 59, 3) := by decide +kernel
theorem dX5_source_19 : decode cX5_source 19 = .ok (.ireturn, 1) := by decide +kernel
theorem dX5_gate_0 : decode cX5_gate 0 = .ok (.aload_n 0, 1) := by decide +kernel
theorem dX5_gate_1 : decode cX5_gate 1 = .ok (.getfield 10, 3) := by decide +kernel
theorem dX5_gate_4 : decode cX5_gate 4 = .ok (.iload_n 2, 1) := by decide +kernel
theorem dX5_gate_5 : decode cX5_gate 5 = .ok (.invokevirtual 63, 3) := by decide +kernel
theorem dX5_gate_8 : decode cX5_gate 8 = .ok (.ifCond .eq 14, 3) := by decide +kernel
theorem dX5_gate_11 : decode cX5_gate 11 = .ok (.aload_n 0, 1) := by decide +kernel
theorem dX5_gate_12 : decode cX5_gate 12 = .ok (.getfield 10, 3) := by decide +kernel
theorem dX5_gate_15 : decode cX5_gate 15 = .ok (.iload_n 3, 1) := by decide +kernel
theorem dX5_gate_16 : decode cX5_gate 16 = .ok (.invokevirtual 63, 3) := by decide +kernel
theorem dX5_gate_19 : decode cX5_gate 19 = .ok (.ifCond .ne 6, 3) := by decide +kernel
theorem dX5_gate_22 : decode cX5_gate 22 = .ok (.ldc 67, 2) := by decide +kernel
theorem dX5_gate_24 : decode cX5_gate 24 = .ok (.ireturn, 1) := by decide +kernel
theorem dX5_gate_25 : decode cX5_gate 25 = .ok (.iload_n 1, 1) := by decide +kernel
theorem dX5_gate_26 : decode cX5_gate 26 = .ok (.iconst 1, 1) := by decide +kernel
theorem dX5_gate_27 : decode cX5_gate 27 = .ok (.iconst 3, 1) := by decide +kernel
theorem dX5_gate_28 : decode cX5_gate 28 = .ok (.invokestatic 68, 3) := by decide +kernel
theorem dX5_gate_31 : decode cX5_gate 31 = .ok (.ifCond .ne 6, 3) := by decide +kernel
theorem dX5_gate_34 : decode cX5_gate 34 = .ok (.ldc 58, 2) := by decide +kernel
theorem dX5_gate_36 : decode cX5_gate 36 = .ok (.ireturn, 1) := by decide +kernel
theorem dX5_gate_37 : decode cX5_gate 37 = .ok (.aload_n 0, 1) := by decide +kernel
theorem dX5_gate_38 : decode cX5_gate 38 = .ok (.iload_n 1, 1) := by decide +kernel
theorem dX5_gate_39 : decode cX5_gate 39 = .ok (.iload_n 2, 1) := by decide +kernel
theorem dX5_gate_40 : decode cX5_gate 40 = .ok (.iload_n 3, 1) := by decide +kernel
theorem dX5_gate_41 : decode cX5_gate 41 = .ok (.iconst 0, 1) := by decide +kernel
theorem dX5_gate_42 : decode cX5_gate 42 = .ok (.invokevirtual 59, 3) := by decide +kernel
theorem dX5_gate_45 : decode cX5_gate 45 = .ok (.ireturn, 1) := by decide +kernel
theorem dX5_choose_0 : decode cX5_choose 0 = .ok (.aload_n 0, 1) := by decide +kernel
theorem dX5_choose_1 : decode cX5_choose 1 = .ok (.getfield 10, 3) := by decide +kernel
theorem dX5_choose_4 : decode cX5_choose 4 = .ok (.iload_n 1, 1) := by decide +kernel
theorem dX5_choose_5 : decode cX5_choose 5 = .ok (.invokevirtual 63, 3) := by decide +kernel
theorem dX5_choose_8 : decode cX5_choose 8 = .ok (.ifCond .eq 25, 3) := by decide +kernel
theorem dX5_choose_11 : decode cX5_choose 11 = .ok (.aload_n 0, 1) := by decide +kernel
theorem dX5_choose_12 : decode cX5_choose 12 = .ok (.getfield 10, 3) := by decide +kernel
theorem dX5_choose_15 : decode cX5_choose 15 = .ok (.iload_n 2, 1) := by decide +kernel
theorem dX5_choose_16 : decode cX5_choose 16 = .ok (.invokevirtual 63, 3) := by decide +kernel
theorem dX5_choose_19 : decode cX5_choose 19 = .ok (.ifCond .eq 14, 3) := by decide +kernel
theorem dX5_choose_22 : decode cX5_choose 22 = .ok (.aload_n 0, 1) := by decide +kernel
theorem dX5_choose_23 : decode cX5_choose 23 = .ok (.getfield 10, 3) := by decide +kernel
theorem dX5_choose_26 : decode cX5_choose 26 = .ok (.iload_n 3, 1) := by decide +kernel
theorem dX5_choose_27 : decode cX5_choose 27 = .ok (.invokevirtual 63, 3) := by decide +kernel
theorem dX5_choose_30 : decode cX5_choose 30 = .ok (.ifCond .ne 6, 3) := by decide +kernel
theorem dX5_choose_33 : decode cX5_choose 33 = .ok (.ldc 67, 2) := by decide +kernel
theorem dX5_choose_35 : decode cX5_choose 35 = .ok (.ireturn, 1) := by decide +kernel
theorem dX5_choose_36 : decode cX5_choose 36 = .ok (.aload_n 0, 1) := by decide +kernel
theorem dX5_choose_37 : decode cX5_choose 37 = .ok (.iconst 4, 1) := by decide +kernel
theorem dX5_choose_38 : decode cX5_choose 38 = .ok (.iload_n 1, 1) := by decide +kernel
theorem dX5_choose_39 : decode cX5_choose 39 = .ok (.iload_n 2, 1) := by decide +kernel
theorem dX5_choose_40 : decode cX5_choose 40 = .ok (.iload_n 3, 1) := by decide +kernel
theorem dX5_choose_41 : decode cX5_choose 41 = .ok (.invokevirtual 59, 3) := by decide +kernel
theorem dX5_choose_44 : decode cX5_choose 44 = .ok (.ireturn, 1) := by decide +kernel
theorem dX5_turn_0 : decode cX5_turn 0 = .ok (.aload_n 0, 1) := by decide +kernel
theorem dX5_turn_1 : decode cX5_turn 1 = .ok (.getfield 10, 3) := by decide +kernel
theorem dX5_turn_4 : decode cX5_turn 4 = .ok (.iload_n 1, 1) := by decide +kernel
theorem dX5_turn_5 : decode cX5_turn 5 = .ok (.invokevirtual 63, 3) := by decide +kernel
theorem dX5_turn_8 : decode cX5_turn 8 = .ok (.ifCond .ne 6, 3) := by decide +kernel
theorem dX5_turn_11 : decode cX5_turn 11 = .ok (.ldc 67, 2) := by decide +kernel
theorem dX5_turn_13 : decode cX5_turn 13 = .ok (.ireturn, 1) := by decide +kernel
theorem dX5_turn_14 : decode cX5_turn 14 = .ok (.aload_n 0, 1) := by decide +kernel
theorem dX5_turn_15 : decode cX5_turn 15 = .ok (.iconst 5, 1) := by decide +kernel
theorem dX5_turn_16 : decode cX5_turn 16 = .ok (.iload_n 1, 1) := by decide +kernel
theorem dX5_turn_17 : decode cX5_turn 17 = .ok (.iconst 0, 1) := by decide +kernel
theorem dX5_turn_18 : decode cX5_turn 18 = .ok (.iconst 0, 1) := by decide +kernel
theorem dX5_turn_19 : decode cX5_turn 19 = .ok (.invokevirtual 59, 3) := by decide +kernel
theorem dX5_turn_22 : decode cX5_turn 22 = .ok (.ireturn, 1) := by decide +kernel
theorem dX5_delay_0 : decode cX5_delay 0 = .ok (.aload_n 0, 1) := by decide +kernel
theorem dX5_delay_1 : decode cX5_delay 1 = .ok (.getfield 10, 3) := by decide +kernel
theorem dX5_delay_4 : decode cX5_delay 4 = .ok (.iload_n 1, 1) := by decide +kernel
theorem dX5_delay_5 : decode cX5_delay 5 = .ok (.invokevirtual 63, 3) := by decide +kernel
theorem dX5_delay_8 : decode cX5_delay 8 = .ok (.ifCond .ne 6, 3) := by decide +kernel
theorem dX5_delay_11 : decode cX5_delay 11 = .ok (.ldc 67, 2) := by decide +kernel
theorem dX5_delay_13 : decode cX5_delay 13 = .ok (.ireturn, 1) := by decide +kernel
theorem dX5_delay_14 : decode cX5_delay 14 = .ok (.iload_n 2, 1) := by decide +kernel
theorem dX5_delay_15 : decode cX5_delay 15 = .ok (.iconst 1, 1) := by decide +kernel
theorem dX5_delay_16 : decode cX5_delay 16 = .ok (.bipush 60, 2) := by decide +kernel
theorem dX5_delay_18 : decode cX5_delay 18 = .ok (.invokestatic 68, 3) := by decide +kernel
theorem dX5_delay_21 : decode cX5_delay 21 = .ok (.ifCond .ne 6, 3) := by decide +kernel
theorem dX5_delay_24 : decode cX5_delay 24 = .ok (.ldc 58, 2) := by decide +kernel
theorem dX5_delay_26 : decode cX5_delay 26 = .ok (.ireturn, 1) := by decide +kernel
theorem dX5_delay_27 : decode cX5_delay 27 = .ok (.aload_n 0, 1) := by decide +kernel
theorem dX5_delay_28 : decode cX5_delay 28 = .ok (.bipush 6, 2) := by decide +kernel
theorem dX5_delay_30 : decode cX5_delay 30 = .ok (.iload_n 1, 1) := by decide +kernel
theorem dX5_delay_31 : decode cX5_delay 31 = .ok (.iload_n 2, 1) := by decide +kernel
theorem dX5_delay_32 : decode cX5_delay 32 = .ok (.iconst 0, 1) := by decide +kernel
theorem dX5_delay_33 : decode cX5_delay 33 = .ok (.invokevirtual 59, 3) := by decide +kernel
theorem dX5_delay_36 : decode cX5_delay 36 = .ok (.ireturn, 1) := by decide +kernel
theorem dX5_reseed_0 : decode cX5_reseed 0 = .ok (.aload_n 0, 1) := by decide +kernel
theorem dX5_reseed_1 : decode cX5_reseed 1 = .ok (.getfield 10, 3) := by decide +kernel
theorem dX5_reseed_4 : decode cX5_reseed 4 = .ok (.iload_n 1, 1) := by decide +kernel
theorem dX5_reseed_5 : decode cX5_reseed 5 = .ok (.invokevirtual 63, 3) := by decide +kernel
theorem dX5_reseed_8 : decode cX5_reseed 8 = .ok (.ifCond .ne 6, 3) := by decide +kernel
theorem dX5_reseed_11 : decode cX5_reseed 11 = .ok (.ldc 67, 2) := by decide +kernel
theorem dX5_reseed_13 : decode cX5_reseed 13 = .ok (.ireturn, 1) := by decide +kernel
theorem dX5_reseed_14 : decode cX5_reseed 14 = .ok (.iload_n 2, 1) := by decide +kernel
theorem dX5_reseed_15 : decode cX5_reseed 15 = .ok (.iload_n 3, 1) := by decide +kernel
theorem dX5_reseed_16 : decode cX5_reseed 16 = .ok (.invokestatic 54, 3) := by decide +kernel
theorem dX5_reseed_19 : decode cX5_reseed 19 = .ok (.ifCond .ne 6, 3) := by decide +kernel
theorem dX5_reseed_22 : decode cX5_reseed 22 = .ok (.ldc 58, 2) := by decide +kernel
theorem dX5_reseed_24 : decode cX5_reseed 24 = .ok (.ireturn, 1) := by decide +kernel
theorem dX5_reseed_25 : decode cX5_reseed 25 = .ok (.aload_n 0, 1) := by decide +kernel
theorem dX5_reseed_26 : decode cX5_reseed 26 = .ok (.getfield 10, 3) := by decide +kernel
theorem dX5_reseed_29 : decode cX5_reseed 29 = .ok (.iload_n 1, 1) := by decide +kernel
theorem dX5_reseed_30 : decode cX5_reseed 30 = .ok (.invokevirtual 72, 3) := by decide +kernel
theorem dX5_reseed_33 : decode cX5_reseed 33 = .ok (.ifCond .eq 6, 3) := by decide +kernel
theorem dX5_reseed_36 : decode cX5_reseed 36 = .ok (.ldc 76, 2) := by decide +kernel
theorem dX5_reseed_38 : decode cX5_reseed 38 = .ok (.ireturn, 1) := by decide +kernel
theorem dX5_reseed_39 : decode cX5_reseed 39 = .ok (.aload_n 0, 1) := by decide +kernel
theorem dX5_reseed_40 : decode cX5_reseed 40 = .ok (.getfield 10, 3) := by decide +kernel
theorem dX5_reseed_43 : decode cX5_reseed 43 = .ok (.iload_n 1, 1) := by decide +kernel
theorem dX5_reseed_44 : decode cX5_reseed 44 = .ok (.iconst 1, 1) := by decide +kernel
theorem dX5_reseed_45 : decode cX5_reseed 45 = .ok (.invokevirtual 77, 3) := by decide +kernel
theorem dX5_reseed_48 : decode cX5_reseed 48 = .ok (.istore 4, 2) := by decide +kernel
theorem dX5_reseed_50 : decode cX5_reseed 50 = .ok (.iload 4, 2) := by decide +kernel
theorem dX5_reseed_52 : decode cX5_reseed 52 = .ok (.iload_n 2, 1) := by decide +kernel
theorem dX5_reseed_53 : decode cX5_reseed 53 = .ok (.if_icmp .ne 19, 3) := by decide +kernel
theorem dX5_reseed_56 : decode cX5_reseed 56 = .ok (.aload_n 0, 1) := by decide +kernel
theorem dX5_reseed_57 : decode cX5_reseed 57 = .ok (.getfield 10, 3) := by decide +kernel
theorem dX5_reseed_60 : decode cX5_reseed 60 = .ok (.iload_n 1, 1) := by decide +kernel
theorem dX5_reseed_61 : decode cX5_reseed 61 = .ok (.iconst 2, 1) := by decide +kernel
theorem dX5_reseed_62 : decode cX5_reseed 62 = .ok (.invokevirtual 77, 3) := by decide +kernel
theorem dX5_reseed_65 : decode cX5_reseed 65 = .ok (.iload_n 3, 1) := by decide +kernel
theorem dX5_reseed_66 : decode cX5_reseed 66 = .ok (.if_icmp .ne 6, 3) := by decide +kernel
theorem dX5_reseed_69 : decode cX5_reseed 69 = .ok (.ldc 81, 2) := by decide +kernel
theorem dX5_reseed_71 : decode cX5_reseed 71 = .ok (.ireturn, 1) := by decide +kernel
theorem dX5_reseed_72 : decode cX5_reseed 72 = .ok (.aload_n 0, 1) := by decide +kernel
theorem dX5_reseed_73 : decode cX5_reseed 73 = .ok (.getfield 29, 3) := by decide +kernel
theorem dX5_reseed_76 : decode cX5_reseed 76 = .ok (.aload_n 0, 1) := by decide +kernel
theorem dX5_reseed_77 : decode cX5_reseed 77 = .ok (.getfield 10, 3) := by decide +kernel
theorem dX5_reseed_80 : decode cX5_reseed 80 = .ok (.invokevirtual 82, 3) := by decide +kernel
theorem dX5_reseed_83 : decode cX5_reseed 83 = .ok (.aload_n 0, 1) := by decide +kernel
theorem dX5_reseed_84 : decode cX5_reseed 84 = .ok (.getfield 10, 3) := by decide +kernel
theorem dX5_reseed_87 : decode cX5_reseed 87 = .ok (.iload_n 1, 1) := by decide +kernel
theorem dX5_reseed_88 : decode cX5_reseed 88 = .ok (.iload_n 2, 1) := by decide +kernel
theorem dX5_reseed_89 : decode cX5_reseed 89 = .ok (.iload_n 3, 1) := by decide +kernel
theorem dX5_reseed_90 : decode cX5_reseed 90 = .ok (.invokevirtual 86, 3) := by decide +kernel
theorem dX5_reseed_93 : decode cX5_reseed 93 = .ok (.iload 4, 2) := by decide +kernel
theorem dX5_reseed_95 : decode cX5_reseed 95 = .ok (.ireturn, 1) := by decide +kernel
theorem dX5_removeLast_0 : decode cX5_removeLast 0 = .ok (.aload_n 0, 1) := by decide +kernel
theorem dX5_removeLast_1 : decode cX5_removeLast 1 = .ok (.getfield 10, 3) := by decide +kernel
theorem dX5_removeLast_4 : decode cX5_removeLast 4 = .ok (.getfield 90, 3) := by decide +kernel
theorem dX5_removeLast_7 : decode cX5_removeLast 7 = .ok (.ifCond .ne 6, 3) := by decide +kernel
theorem dX5_removeLast_10 : decode cX5_removeLast 10 = .ok (.ldc 81, 2) := by decide +kernel
theorem dX5_removeLast_12 : decode cX5_removeLast 12 = .ok (.ireturn, 1) := by decide +kernel
theorem dX5_removeLast_13 : decode cX5_removeLast 13 = .ok (.aload_n 0, 1) := by decide +kernel
theorem dX5_removeLast_14 : decode cX5_removeLast 14 = .ok (.getfield 29, 3) := by decide +kernel
theorem dX5_removeLast_17 : decode cX5_removeLast 17 = .ok (.aload_n 0, 1) := by decide +kernel
theorem dX5_removeLast_18 : decode cX5_removeLast 18 = .ok (.getfield 10, 3) := by decide +kernel
theorem dX5_removeLast_21 : decode cX5_removeLast 21 = .ok (.invokevirtual 82, 3) := by decide +kernel
theorem dX5_removeLast_24 : decode cX5_removeLast 24 = .ok (.aload_n 0, 1) := by decide +kernel
theorem dX5_removeLast_25 : decode cX5_removeLast 25 = .ok (.getfield 10, 3) := by decide +kernel
theorem dX5_removeLast_28 : decode cX5_removeLast 28 = .ok (.invokevirtual 94, 3) := by decide +kernel
theorem dX5_removeLast_31 : decode cX5_removeLast 31 = .ok (.aload_n 0, 1) := by decide +kernel
theorem dX5_removeLast_32 : decode cX5_removeLast 32 = .ok (.getfield 10, 3) := by decide +kernel
theorem dX5_removeLast_35 : decode cX5_removeLast 35 = .ok (.getfield 90, 3) := by decide +kernel
theorem dX5_removeLast_38 : decode cX5_removeLast 38 = .ok (.ireturn, 1) := by decide +kernel
theorem dX5_setLength_0 : decode cX5_setLength 0 = .ok (.iload_n 1, 1) := by decide +kernel
theorem dX5_setLength_1 : decode cX5_setLength 1 = .ok (.iconst 1, 1) := by decide +kernel
theorem dX5_setLength_2 : decode cX5_setLength 2 = .ok (.sipush 1000, 3) := by decide +kernel
theorem dX5_setLength_5 : decode cX5_setLength 5 = .ok (.invokestatic 68, 3) := by decide +kernel
theorem dX5_setLength_8 : decode cX5_setLength 8 = .ok (.ifCond .ne 6, 3) := by decide +kernel
theorem dX5_setLength_11 : decode cX5_setLength 11 = .ok (.ldc 58, 2) := by decide +kernel
theorem dX5_setLength_13 : decode cX5_setLength 13 = .ok (.ireturn, 1) := by decide +kernel
theorem dX5_setLength_14 : decode cX5_setLength 14 = .ok (.aload_n 0, 1) := by decide +kernel
theorem dX5_setLength_15 : decode cX5_setLength 15 = .ok (.getfield 10, 3) := by decide +kernel
theorem dX5_setLength_18 : decode cX5_setLength 18 = .ok (.getfield 97, 3) := by decide +kernel
theorem dX5_setLength_21 : decode cX5_setLength 21 = .ok (.istore_n 2, 1) := by decide +kernel
theorem dX5_setLength_22 : decode cX5_setLength 22 = .ok (.iload_n 2, 1) := by decide +kernel
theorem dX5_setLength_23 : decode cX5_setLength 23 = .ok (.iload_n 1, 1) := by decide +kernel
theorem dX5_setLength_24 : decode cX5_setLength 24 = .ok (.if_icmp .ne 6, 3) := by decide +kernel
theorem dX5_setLength_27 : decode cX5_setLength 27 = .ok (.ldc 81, 2) := by decide +kernel
theorem dX5_setLength_29 : decode cX5_setLength 29 = .ok (.ireturn, 1) := by decide +kernel
theorem dX5_setLength_30 : decode cX5_setLength 30 = .ok (.aload_n 0, 1) := by decide +kernel
theorem dX5_setLength_31 : decode cX5_setLength 31 = .ok (.getfield 29, 3) := by decide +kernel
theorem dX5_setLength_34 : decode cX5_setLength 34 = .ok (.aload_n 0, 1) := by decide +kernel
theorem dX5_setLength_35 : decode cX5_setLength 35 = .ok (.getfield 10, 3) := by decide +kernel
theorem dX5_setLength_38 : decode cX5_setLength 38 = .ok (.invokevirtual 82, 3) := by decide +kernel
theorem dX5_setLength_41 : decode cX5_setLength 41 = .ok (.aload_n 0, 1) := by decide +kernel
theorem dX5_setLength_42 : decode cX5_setLength 42 = .ok (.getfield 10, 3) := by decide +kernel
theorem dX5_setLength_45 : decode cX5_setLength 45 = .ok (.iload_n 1, 1) := by decide +kernel
theorem dX5_setLength_46 : decode cX5_setLength 46 = .ok (.putfield 97, 3) := by decide +kernel
theorem dX5_setLength_49 : decode cX5_setLength 49 = .ok (.iload_n 2, 1) := by decide +kernel
theorem dX5_setLength_50 : decode cX5_setLength 50 = .ok (.ireturn, 1) := by decide +kernel
theorem dX5_readCircuit_0 : decode cX5_readCircuit 0 = .ok (.aload_n 0, 1) := by decide +kernel
theorem dX5_readCircuit_1 : decode cX5_readCircuit 1 = .ok (.getfield 36, 3) := by decide +kernel
theorem dX5_readCircuit_4 : decode cX5_readCircuit 4 = .ok (.aload_n 0, 1) := by decide +kernel
theorem dX5_readCircuit_5 : decode cX5_readCircuit 5 = .ok (.getfield 23, 3) := by decide +kernel
theorem dX5_readCircuit_8 : decode cX5_readCircuit 8 = .ok (.invokevirtual 100, 3) := by decide +kernel
theorem dX5_readCircuit_11 : decode cX5_readCircuit 11 = .ok (.istore_n 1, 1) := by decide +kernel
theorem dX5_readCircuit_12 : decode cX5_readCircuit 12 = .ok (.iload_n 1, 1) := by decide +kernel
theorem dX5_readCircuit_13 : decode cX5_readCircuit 13 = .ok (.iconst (-1), 1) := by decide +kernel
theorem dX5_readCircuit_14 : decode cX5_readCircuit 14 = .ok (.if_icmp .eq 8, 3) := by decide +kernel
theorem dX5_readCircuit_17 : decode cX5_readCircuit 17 = .ok (.ldc 104, 2) := by decide +kernel
theorem dX5_readCircuit_19 : decode cX5_readCircuit 19 = .ok (.iload_n 1, 1) := by decide +kernel
theorem dX5_readCircuit_20 : decode cX5_readCircuit 20 = .ok (.isub, 1) := by decide +kernel
theorem dX5_readCircuit_21 : decode cX5_readCircuit 21 = .ok (.ireturn, 1) := by decide +kernel
theorem dX5_readCircuit_22 : decode cX5_readCircuit 22 = .ok (.aload_n 0, 1) := by decide +kernel
theorem dX5_readCircuit_23 : decode cX5_readCircuit 23 = .ok (.getfield 23, 3) := by decide +kernel
theorem dX5_readCircuit_26 : decode cX5_readCircuit 26 = .ok (.aload_n 0, 1) := by decide +kernel
theorem dX5_readCircuit_27 : decode cX5_readCircuit 27 = .ok (.getfield 10, 3) := by decide +kernel
theorem dX5_readCircuit_30 : decode cX5_readCircuit 30 = .ok (.getfield 90, 3) := by decide +kernel
theorem dX5_readCircuit_33 : decode cX5_readCircuit 33 = .ok (.invokestatic 105, 3) := by decide +kernel
theorem dX5_readCircuit_36 : decode cX5_readCircuit 36 = .ok (.ifCond .ne 6, 3) := by decide +kernel
theorem dX5_readCircuit_39 : decode cX5_readCircuit 39 = .ok (.ldc 67, 2) := by decide +kernel
theorem dX5_readCircuit_41 : decode cX5_readCircuit 41 = .ok (.ireturn, 1) := by decide +kernel
theorem dX5_readCircuit_42 : decode cX5_readCircuit 42 = .ok (.aload_n 0, 1) := by decide +kernel
theorem dX5_readCircuit_43 : decode cX5_readCircuit 43 = .ok (.getfield 10, 3) := by decide +kernel
theorem dX5_readCircuit_46 : decode cX5_readCircuit 46 = .ok (.getfield 90, 3) := by decide +kernel
theorem dX5_readCircuit_49 : decode cX5_readCircuit 49 = .ok (.aload_n 0, 1) := by decide +kernel
theorem dX5_readCircuit_50 : decode cX5_readCircuit 50 = .ok (.getfield 23, 3) := by decide +kernel
theorem dX5_readCircuit_53 : decode cX5_readCircuit 53 = .ok (.getfield 90, 3) := by decide +kernel
theorem dX5_readCircuit_56 : decode cX5_readCircuit 56 = .ok (.iadd, 1) := by decide +kernel
theorem dX5_readCircuit_57 : decode cX5_readCircuit 57 = .ok (.bipush 16, 2) := by decide +kernel
theorem dX5_readCircuit_59 : decode cX5_readCircuit 59 = .ok (.if_icmp .le 6, 3) := by decide +kernel
theorem dX5_readCircuit_62 : decode cX5_readCircuit 62 = .ok (.ldc 109, 2) := by decide +kernel
theorem dX5_readCircuit_64 : decode cX5_readCircuit 64 = .ok (.ireturn, 1) := by decide +kernel
theorem dX5_readCircuit_65 : decode cX5_readCircuit 65 = .ok (.aload_n 0, 1) := by decide +kernel
theorem dX5_readCircuit_66 : decode cX5_readCircuit 66 = .ok (.getfield 29, 3) := by decide +kernel
theorem dX5_readCircuit_69 : decode cX5_readCircuit 69 = .ok (.aload_n 0, 1) := by decide +kernel
theorem dX5_readCircuit_70 : decode cX5_readCircuit 70 = .ok (.getfield 10, 3) := by decide +kernel
theorem dX5_readCircuit_73 : decode cX5_readCircuit 73 = .ok (.invokevirtual 82, 3) := by decide +kernel
theorem dX5_readCircuit_76 : decode cX5_readCircuit 76 = .ok (.aload_n 0, 1) := by decide +kernel
theorem dX5_readCircuit_77 : decode cX5_readCircuit 77 = .ok (.getfield 10, 3) := by decide +kernel
theorem dX5_readCircuit_80 : decode cX5_readCircuit 80 = .ok (.aload_n 0, 1) := by decide +kernel
theorem dX5_readCircuit_81 : decode cX5_readCircuit 81 = .ok (.getfield 23, 3) := by decide +kernel
theorem dX5_readCircuit_84 : decode cX5_readCircuit 84 = .ok (.invokevirtual 110, 3) := by decide +kernel
theorem dX5_readCircuit_87 : decode cX5_readCircuit 87 = .ok (.aload_n 0, 1) := by decide +kernel
theorem dX5_readCircuit_88 : decode cX5_readCircuit 88 = .ok (.getfield 10, 3) := by decide +kernel
theorem dX5_readCircuit_91 : decode cX5_readCircuit 91 = .ok (.getfield 90, 3) := by decide +kernel
theorem dX5_readCircuit_94 : decode cX5_readCircuit 94 = .ok (.ireturn, 1) := by decide +kernel
theorem dX5_type_0 : decode cX5_type 0 = .ok (.aload_n 0, 1) := by decide +kernel
theorem dX5_type_1 : decode cX5_type 1 = .ok (.getfield 36, 3) := by decide +kernel
theorem dX5_type_4 : decode cX5_type 4 = .ok (.getfield 113, 3) := by decide +kernel
theorem dX5_type_7 : decode cX5_type 7 = .ok (.bipush 80, 2) := by decide +kernel
theorem dX5_type_9 : decode cX5_type 9 = .ok (.if_icmp .lt 6, 3) := by decide +kernel
theorem dX5_type_12 : decode cX5_type 12 = .ok (.ldc 109, 2) := by decide +kernel
theorem dX5_type_14 : decode cX5_type 14 = .ok (.ireturn, 1) := by decide +kernel
theorem dX5_type_15 : decode cX5_type 15 = .ok (.aload_n 0, 1) := by decide +kernel
theorem dX5_type_16 : decode cX5_type 16 = .ok (.getfield 36, 3) := by decide +kernel
theorem dX5_type_19 : decode cX5_type 19 = .ok (.iload_n 1, 1) := by decide +kernel
theorem dX5_type_20 : decode cX5_type 20 = .ok (.invokevirtual 114, 3) := by decide +kernel
theorem dX5_type_23 : decode cX5_type 23 = .ok (.aload_n 0, 1) := by decide +kernel
theorem dX5_type_24 : decode cX5_type 24 = .ok (.getfield 36, 3) := by decide +kernel
theorem dX5_type_27 : decode cX5_type 27 = .ok (.getfield 113, 3) := by decide +kernel
theorem dX5_type_30 : decode cX5_type 30 = .ok (.ireturn, 1) := by decide +kernel
theorem dX5_clearText_0 : decode cX5_clearText 0 = .ok (.aload_n 0, 1) := by decide +kernel
theorem dX5_clearText_1 : decode cX5_clearText 1 = .ok (.getfield 36, 3) := by decide +kernel
theorem dX5_clearText_4 : decode cX5_clearText 4 = .ok (.getfield 113, 3) := by decide +kernel
theorem dX5_clearText_7 : decode cX5_clearText 7 = .ok (.istore_n 1, 1) := by decide +kernel
theorem dX5_clearText_8 : decode cX5_clearText 8 = .ok (.aload_n 0, 1) := by decide +kernel
theorem dX5_clearText_9 : decode cX5_clearText 9 = .ok (.getfield 36, 3) := by decide +kernel
theorem dX5_clearText_12 : decode cX5_clearText 12 = .ok (.iconst 0, 1) := by decide +kernel
theorem dX5_clearText_13 : decode cX5_clearText 13 = .ok (.putfield 113, 3) := by decide +kernel
theorem dX5_clearText_16 : decode cX5_clearText 16 = .ok (.iload_n 1, 1) := by decide +kernel
theorem dX5_clearText_17 : decode cX5_clearText 17 = .ok (.ireturn, 1) := by decide +kernel
theorem dX5_undo_0 : decode cX5_undo 0 = .ok (.aload_n 0, 1) := by decide +kernel
theorem dX5_undo_1 : decode cX5_undo 1 = .ok (.getfield 29, 3) := by decide +kernel
theorem dX5_undo_4 : decode cX5_undo 4 = .ok (.getfield 118, 3) := by decide +kernel
theorem dX5_undo_7 : decode cX5_undo 7 = .ok (.ifCond .ne 6, 3) := by decide +kernel
theorem dX5_undo_10 : decode cX5_undo 10 = .ok (.ldc 81, 2) := by decide +kernel
theorem dX5_undo_12 : decode cX5_undo 12 = .ok (.ireturn, 1) := by decide +kernel
theorem dX5_undo_13 : decode cX5_undo 13 = .ok (.aload_n 0, 1) := by decide +kernel
theorem dX5_undo_14 : decode cX5_undo 14 = .ok (.getfield 29, 3) := by decide +kernel
theorem dX5_undo_17 : decode cX5_undo 17 = .ok (.aload_n 0, 1) := by decide +kernel
theorem dX5_undo_18 : decode cX5_undo 18 = .ok (.getfield 10, 3) := by decide +kernel
theorem dX5_undo_21 : decode cX5_undo 21 = .ok (.invokevirtual 119, 3) := by decide +kernel
theorem dX5_undo_24 : decode cX5_undo 24 = .ok (.aload_n 0, 1) := by decide +kernel
theorem dX5_undo_25 : decode cX5_undo 25 = .ok (.getfield 29, 3) := by decide +kernel
theorem dX5_undo_28 : decode cX5_undo 28 = .ok (.getfield 118, 3) := by decide +kernel
theorem dX5_undo_31 : decode cX5_undo 31 = .ok (.ireturn, 1) := by decide +kernel
theorem dX5_keep_0 : decode cX5_keep 0 = .ok (.aload_n 0, 1) := by decide +kernel
theorem dX5_keep_1 : decode cX5_keep 1 = .ok (.getfield 16, 3) := by decide +kernel
theorem dX5_keep_4 : decode cX5_keep 4 = .ok (.aload_n 0, 1) := by decide +kernel
theorem dX5_keep_5 : decode cX5_keep 5 = .ok (.getfield 10, 3) := by decide +kernel
theorem dX5_keep_8 : decode cX5_keep 8 = .ok (.invokevirtual 122, 3) := by decide +kernel
theorem dX5_keep_11 : decode cX5_keep 11 = .ok (.aload_n 0, 1) := by decide +kernel
theorem dX5_keep_12 : decode cX5_keep 12 = .ok (.iconst 1, 1) := by decide +kernel
theorem dX5_keep_13 : decode cX5_keep 13 = .ok (.putfield 19, 3) := by decide +kernel
theorem dX5_keep_16 : decode cX5_keep 16 = .ok (.aload_n 0, 1) := by decide +kernel
theorem dX5_keep_17 : decode cX5_keep 17 = .ok (.getfield 10, 3) := by decide +kernel
theorem dX5_keep_20 : decode cX5_keep 20 = .ok (.getfield 90, 3) := by decide +kernel
theorem dX5_keep_23 : decode cX5_keep 23 = .ok (.ireturn, 1) := by decide +kernel
theorem dX5_restore_0 : decode cX5_restore 0 = .ok (.aload_n 0, 1) := by decide +kernel
theorem dX5_restore_1 : decode cX5_restore 1 = .ok (.getfield 19, 3) := by decide +kernel
theorem dX5_restore_4 : decode cX5_restore 4 = .ok (.ifCond .ne 6, 3) := by decide +kernel
theorem dX5_restore_7 : decode cX5_restore 7 = .ok (.ldc 81, 2) := by decide +kernel
theorem dX5_restore_9 : decode cX5_restore 9 = .ok (.ireturn, 1) := by decide +kernel
theorem dX5_restore_10 : decode cX5_restore 10 = .ok (.aload_n 0, 1) := by decide +kernel
theorem dX5_restore_11 : decode cX5_restore 11 = .ok (.getfield 29, 3) := by decide +kernel
theorem dX5_restore_14 : decode cX5_restore 14 = .ok (.aload_n 0, 1) := by decide +kernel
theorem dX5_restore_15 : decode cX5_restore 15 = .ok (.getfield 10, 3) := by decide +kernel
theorem dX5_restore_18 : decode cX5_restore 18 = .ok (.invokevirtual 82, 3) := by decide +kernel
theorem dX5_restore_21 : decode cX5_restore 21 = .ok (.aload_n 0, 1) := by decide +kernel
theorem dX5_restore_22 : decode cX5_restore 22 = .ok (.getfield 10, 3) := by decide +kernel
theorem dX5_restore_25 : decode cX5_restore 25 = .ok (.aload_n 0, 1) := by decide +kernel
theorem dX5_restore_26 : decode cX5_restore 26 = .ok (.getfield 16, 3) := by decide +kernel
theorem dX5_restore_29 : decode cX5_restore 29 = .ok (.invokevirtual 122, 3) := by decide +kernel
theorem dX5_restore_32 : decode cX5_restore 32 = .ok (.aload_n 0, 1) := by decide +kernel
theorem dX5_restore_33 : decode cX5_restore 33 = .ok (.getfield 10, 3) := by decide +kernel
theorem dX5_restore_36 : decode cX5_restore 36 = .ok (.getfield 90, 3) := by decide +kernel
theorem dX5_restore_39 : decode cX5_restore 39 = .ok (.ireturn, 1) := by decide +kernel
theorem dX5_line_0 : decode cX5_line 0 = .ok (.aload_n 0, 1) := by decide +kernel
theorem dX5_line_1 : decode cX5_line 1 = .ok (.getfield 10, 3) := by decide +kernel
theorem dX5_line_4 : decode cX5_line 4 = .ok (.iload_n 1, 1) := by decide +kernel
theorem dX5_line_5 : decode cX5_line 5 = .ok (.invokevirtual 63, 3) := by decide +kernel
theorem dX5_line_8 : decode cX5_line 8 = .ok (.ifCond .ne 6, 3) := by decide +kernel
theorem dX5_line_11 : decode cX5_line 11 = .ok (.ldc 67, 2) := by decide +kernel
theorem dX5_line_13 : decode cX5_line 13 = .ok (.ireturn, 1) := by decide +kernel
theorem dX5_line_14 : decode cX5_line 14 = .ok (.iload_n 2, 1) := by decide +kernel
theorem dX5_line_15 : decode cX5_line 15 = .ok (.tableswitch 201 0 9 #[53, 62, 62, 62, 92, 105, 128, 148, 161, 181], 53) := by decide +kernel
theorem dX5_line_68 : decode cX5_line 68 = .ok (.aload_n 0, 1) := by decide +kernel
theorem dX5_line_69 : decode cX5_line 69 = .ok (.getfield 10, 3) := by decide +kernel
theorem dX5_line_72 : decode cX5_line 72 = .ok (.iload_n 1, 1) := by decide +kernel
theorem dX5_line_73 : decode cX5_line 73 = .ok (.invokevirtual 72, 3) := by decide +kernel
theorem dX5_line_76 : decode cX5_line 76 = .ok (.ireturn, 1) := by decide +kernel
theorem dX5_line_77 : decode cX5_line 77 = .ok (.iload_n 2, 1) := by decide +kernel
theorem dX5_line_78 : decode cX5_line 78 = .ok (.aload_n 0, 1) := by decide +kernel
theorem dX5_line_79 : decode cX5_line 79 = .ok (.getfield 10, 3) := by decide +kernel
theorem dX5_line_82 : decode cX5_line 82 = .ok (.iload_n 1, 1) := by decide +kernel
theorem dX5_line_83 : decode cX5_line 83 = .ok (.invokevirtual 72, 3) := by decide +kernel
theorem dX5_line_86 : decode cX5_line 86 = .ok (.invokestatic 125, 3) := by decide +kernel
theorem dX5_line_89 : decode cX5_line 89 = .ok (.if_icmp .le 8, 3) := by decide +kernel
theorem dX5_line_92 : decode cX5_line 92 = .ok (.ldc 81, 2) := by decide +kernel
theorem dX5_line_94 : decode cX5_line 94 = .ok (.goto 12, 3) := by decide +kernel
theorem dX5_line_97 : decode cX5_line 97 = .ok (.aload_n 0, 1) := by decide +kernel
theorem dX5_line_98 : decode cX5_line 98 = .ok (.getfield 10, 3) := by decide +kernel
theorem dX5_line_101 : decode cX5_line 101 = .ok (.iload_n 1, 1) := by decide +kernel
theorem dX5_line_102 : decode cX5_line 102 = .ok (.iload_n 2, 1) := by decide +kernel
theorem dX5_line_103 : decode cX5_line 103 = .ok (.invokevirtual 77, 3) := by decide +kernel
theorem dX5_line_106 : decode cX5_line 106 = .ok (.ireturn, 1) := by decide +kernel
theorem dX5_line_107 : decode cX5_line 107 = .ok (.aload_n 0, 1) := by decide +kernel
theorem dX5_line_108 : decode cX5_line 108 = .ok (.iload_n 1, 1) := by decide +kernel
theorem dX5_line_109 : decode cX5_line 109 = .ok (.aload_n 0, 1) := by decide +kernel
theorem dX5_line_110 : decode cX5_line 110 = .ok (.getfield 10, 3) := by decide +kernel
theorem dX5_line_113 : decode cX5_line 113 = .ok (.getfield 97, 3) := by decide +kernel
theorem dX5_line_116 : decode cX5_line 116 = .ok (.invokevirtual 128, 3) := by decide +kernel
theorem dX5_line_119 : decode cX5_line 119 = .ok (.ireturn, 1) := by decide +kernel
theorem dX5_line_120 : decode cX5_line 120 = .ok (.aload_n 0, 1) := by decide +kernel
theorem dX5_line_121 : decode cX5_line 121 = .ok (.iload_n 1, 1) := by decide +kernel
theorem dX5_line_122 : decode cX5_line 122 = .ok (.aload_n 0, 1) := by decide +kernel
theorem dX5_line_123 : decode cX5_line 123 = .ok (.getfield 10, 3) := by decide +kernel
theorem dX5_line_126 : decode cX5_line 126 = .ok (.getfield 97, 3) := by decide +kernel
theorem dX5_line_129 : decode cX5_line 129 = .ok (.invokevirtual 128, 3) := by decide +kernel
theorem dX5_line_132 : decode cX5_line 132 = .ok (.aload_n 0, 1) := by decide +kernel
theorem dX5_line_133 : decode cX5_line 133 = .ok (.getfield 10, 3) := by decide +kernel
theorem dX5_line_136 : decode cX5_line 136 = .ok (.getfield 97, 3) := by decide +kernel
theorem dX5_line_139 : decode cX5_line 139 = .ok (.invokestatic 131, 3) := by decide +kernel
theorem dX5_line_142 : decode cX5_line 142 = .ok (.ireturn, 1) := by decide +kernel
theorem dX5_line_143 : decode cX5_line 143 = .ok (.aload_n 0, 1) := by decide +kernel
theorem dX5_line_144 : decode cX5_line 144 = .ok (.getfield 43, 3) := by decide +kernel
theorem dX5_line_147 : decode cX5_line 147 = .ok (.aload_n 0, 1) := by decide +kernel
theorem dX5_line_148 : decode cX5_line 148 = .ok (.getfield 10, 3) := by decide +kernel
theorem dX5_line_151 : decode cX5_line 151 = .ok (.invokevirtual 134, 3) := by decide +kernel
theorem dX5_line_154 : decode cX5_line 154 = .ok (.aload_n 0, 1) := by decide +kernel
theorem dX5_line_155 : decode cX5_line 155 = .ok (.getfield 43, 3) := by decide +kernel
theorem dX5_line_158 : decode cX5_line 158 = .ok (.iload_n 1, 1) := by decide +kernel
theorem dX5_line_159 : decode cX5_line 159 = .ok (.invokevirtual 137, 3) := by decide +kernel
theorem dX5_line_162 : decode cX5_line 162 = .ok (.ireturn, 1) := by decide +kernel
theorem dX5_line_163 : decode cX5_line 163 = .ok (.aload_n 0, 1) := by decide +kernel
theorem dX5_line_164 : decode cX5_line 164 = .ok (.iload_n 1, 1) := by decide +kernel
theorem dX5_line_165 : decode cX5_line 165 = .ok (.aload_n 0, 1) := by decide +kernel
theorem dX5_line_166 : decode cX5_line 166 = .ok (.getfield 10, 3) := by decide +kernel
theorem dX5_line_169 : decode cX5_line 169 = .ok (.getfield 97, 3) := by decide +kernel
theorem dX5_line_172 : decode cX5_line 172 = .ok (.invokevirtual 140, 3) := by decide +kernel
theorem dX5_line_175 : decode cX5_line 175 = .ok (.ireturn, 1) := by decide +kernel
theorem dX5_line_176 : decode cX5_line 176 = .ok (.aload_n 0, 1) := by decide +kernel
theorem dX5_line_177 : decode cX5_line 177 = .ok (.getfield 43, 3) := by decide +kernel
theorem dX5_line_180 : decode cX5_line 180 = .ok (.aload_n 0, 1) := by decide +kernel
theorem dX5_line_181 : decode cX5_line 181 = .ok (.getfield 10, 3) := by decide +kernel
theorem dX5_line_184 : decode cX5_line 184 = .ok (.invokevirtual 134, 3) := by decide +kernel
theorem dX5_line_187 : decode cX5_line 187 = .ok (.aload_n 0, 1) := by decide +kernel
theorem dX5_line_188 : decode cX5_line 188 = .ok (.getfield 43, 3) := by decide +kernel
theorem dX5_line_191 : decode cX5_line 191 = .ok (.iload_n 1, 1) := by decide +kernel
theorem dX5_line_192 : decode cX5_line 192 = .ok (.invokevirtual 143, 3) := by decide +kernel
theorem dX5_line_195 : decode cX5_line 195 = .ok (.ireturn, 1) := by decide +kernel
theorem dX5_line_196 : decode cX5_line 196 = .ok (.aload_n 0, 1) := by decide +kernel
theorem dX5_line_197 : decode cX5_line 197 = .ok (.getfield 43, 3) := by decide +kernel
theorem dX5_line_200 : decode cX5_line 200 = .ok (.aload_n 0, 1) := by decide +kernel
theorem dX5_line_201 : decode cX5_line 201 = .ok (.getfield 10, 3) := by decide +kernel
theorem dX5_line_204 : decode cX5_line 204 = .ok (.invokevirtual 134, 3) := by decide +kernel
theorem dX5_line_207 : decode cX5_line 207 = .ok (.aload_n 0, 1) := by decide +kernel
theorem dX5_line_208 : decode cX5_line 208 = .ok (.getfield 43, 3) := by decide +kernel
theorem dX5_line_211 : decode cX5_line 211 = .ok (.iload_n 1, 1) := by decide +kernel
theorem dX5_line_212 : decode cX5_line 212 = .ok (.invokevirtual 146, 3) := by decide +kernel
theorem dX5_line_215 : decode cX5_line 215 = .ok (.ireturn, 1) := by decide +kernel
theorem dX5_line_216 : decode cX5_line 216 = .ok (.ldc 58, 2) := by decide +kernel
theorem dX5_line_218 : decode cX5_line 218 = .ok (.ireturn, 1) := by decide +kernel
theorem dX5_bit_0 : decode cX5_bit 0 = .ok (.aload_n 0, 1) := by decide +kernel
theorem dX5_bit_1 : decode cX5_bit 1 = .ok (.getfield 10, 3) := by decide +kernel
theorem dX5_bit_4 : decode cX5_bit 4 = .ok (.iload_n 1, 1) := by decide +kernel
theorem dX5_bit_5 : decode cX5_bit 5 = .ok (.invokevirtual 63, 3) := by decide +kernel
theorem dX5_bit_8 : decode cX5_bit 8 = .ok (.ifCond .ne 6, 3) := by decide +kernel
theorem dX5_bit_11 : decode cX5_bit 11 = .ok (.ldc 67, 2) := by decide +kernel
theorem dX5_bit_13 : decode cX5_bit 13 = .ok (.ireturn, 1) := by decide +kernel
theorem dX5_bit_14 : decode cX5_bit 14 = .ok (.iload_n 2, 1) := by decide +kernel
theorem dX5_bit_15 : decode cX5_bit 15 = .ok (.iconst 0, 1) := by decide +kernel
theorem dX5_bit_16 : decode cX5_bit 16 = .ok (.sipush 999, 3) := by decide +kernel
theorem dX5_bit_19 : decode cX5_bit 19 = .ok (.invokestatic 68, 3) := by decide +kernel
theorem dX5_bit_22 : decode cX5_bit 22 = .ok (.ifCond .ne 6, 3) := by decide +kernel
theorem dX5_bit_25 : decode cX5_bit 25 = .ok (.ldc 58, 2) := by decide +kernel
theorem dX5_bit_27 : decode cX5_bit 27 = .ok (.ireturn, 1) := by decide +kernel
theorem dX5_bit_28 : decode cX5_bit 28 = .ok (.aload_n 0, 1) := by decide +kernel
theorem dX5_bit_29 : decode cX5_bit 29 = .ok (.getfield 50, 3) := by decide +kernel
theorem dX5_bit_32 : decode cX5_bit 32 = .ok (.aload_n 0, 1) := by decide +kernel
theorem dX5_bit_33 : decode cX5_bit 33 = .ok (.getfield 10, 3) := by decide +kernel
theorem dX5_bit_36 : decode cX5_bit 36 = .ok (.iload_n 1, 1) := by decide +kernel
theorem dX5_bit_37 : decode cX5_bit 37 = .ok (.iload_n 2, 1) := by decide +kernel
theorem dX5_bit_38 : decode cX5_bit 38 = .ok (.iconst 1, 1) := by decide +kernel
theorem dX5_bit_39 : decode cX5_bit 39 = .ok (.iadd, 1) := by decide +kernel
theorem dX5_bit_40 : decode cX5_bit 40 = .ok (.invokevirtual 149, 3) := by decide +kernel
theorem dX5_bit_43 : decode cX5_bit 43 = .ok (.aload_n 0, 1) := by decide +kernel
theorem dX5_bit_44 : decode cX5_bit 44 = .ok (.getfield 50, 3) := by decide +kernel
theorem dX5_bit_47 : decode cX5_bit 47 = .ok (.iload_n 1, 1) := by decide +kernel
theorem dX5_bit_48 : decode cX5_bit 48 = .ok (.iload_n 2, 1) := by decide +kernel
theorem dX5_bit_49 : decode cX5_bit 49 = .ok (.invokevirtual 153, 3) := by decide +kernel
theorem dX5_bit_52 : decode cX5_bit 52 = .ok (.ireturn, 1) := by decide +kernel
theorem dX5_overlap_0 : decode cX5_overlap 0 = .ok (.aload_n 0, 1) := by decide +kernel
theorem dX5_overlap_1 : decode cX5_overlap 1 = .ok (.getfield 10, 3) := by decide +kernel
theorem dX5_overlap_4 : decode cX5_overlap 4 = .ok (.iload_n 1, 1) := by decide +kernel
theorem dX5_overlap_5 : decode cX5_overlap 5 = .ok (.invokevirtual 63, 3) := by decide +kernel
theorem dX5_overlap_8 : decode cX5_overlap 8 = .ok (.ifCond .eq 14, 3) := by decide +kernel
theorem dX5_overlap_11 : decode cX5_overlap 11 = .ok (.aload_n 0, 1) := by decide +kernel
theorem dX5_overlap_12 : decode cX5_overlap 12 = .ok (.getfield 10, 3) := by decide +kernel
theorem dX5_overlap_15 : decode cX5_overlap 15 = .ok (.iload_n 2, 1) := by decide +kernel
theorem dX5_overlap_16 : decode cX5_overlap 16 = .ok (.invokevirtual 63, 3) := by decide +kernel
theorem dX5_overlap_19 : decode cX5_overlap 19 = .ok (.ifCond .ne 6, 3) := by decide +kernel
theorem dX5_overlap_22 : decode cX5_overlap 22 = .ok (.ldc 67, 2) := by decide +kernel
theorem dX5_overlap_24 : decode cX5_overlap 24 = .ok (.ireturn, 1) := by decide +kernel
theorem dX5_overlap_25 : decode cX5_overlap 25 = .ok (.aload_n 0, 1) := by decide +kernel
theorem dX5_overlap_26 : decode cX5_overlap 26 = .ok (.getfield 10, 3) := by decide +kernel
theorem dX5_overlap_29 : decode cX5_overlap 29 = .ok (.getfield 97, 3) := by decide +kernel
theorem dX5_overlap_32 : decode cX5_overlap 32 = .ok (.i2l, 1) := by decide +kernel
theorem dX5_overlap_33 : decode cX5_overlap 33 = .ok (.lstore_n 3, 1) := by decide +kernel
theorem dX5_overlap_34 : decode cX5_overlap 34 = .ok (.lload_n 3, 1) := by decide +kernel
theorem dX5_overlap_35 : decode cX5_overlap 35 = .ok (.lconst 1, 1) := by decide +kernel
theorem dX5_overlap_36 : decode cX5_overlap 36 = .ok (.lcmp, 1) := by decide +kernel
theorem dX5_overlap_37 : decode cX5_overlap 37 = .ok (.ifCond .ge 5, 3) := by decide +kernel
theorem dX5_overlap_40 : decode cX5_overlap 40 = .ok (.iconst 0, 1) := by decide +kernel
theorem dX5_overlap_41 : decode cX5_overlap 41 = .ok (.ireturn, 1) := by decide +kernel
theorem dX5_overlap_42 : decode cX5_overlap 42 = .ok (.aload_n 0, 1) := by decide +kernel
theorem dX5_overlap_43 : decode cX5_overlap 43 = .ok (.getfield 50, 3) := by decide +kernel
theorem dX5_overlap_46 : decode cX5_overlap 46 = .ok (.aload_n 0, 1) := by decide +kernel
theorem dX5_overlap_47 : decode cX5_overlap 47 = .ok (.getfield 10, 3) := by decide +kernel
theorem dX5_overlap_50 : decode cX5_overlap 50 = .ok (.iload_n 1, 1) := by decide +kernel
theorem dX5_overlap_51 : decode cX5_overlap 51 = .ok (.iload_n 2, 1) := by decide +kernel
theorem dX5_overlap_52 : decode cX5_overlap 52 = .ok (.invokestatic 156, 3) := by decide +kernel
theorem dX5_overlap_55 : decode cX5_overlap 55 = .ok (.aload_n 0, 1) := by decide +kernel
theorem dX5_overlap_56 : decode cX5_overlap 56 = .ok (.getfield 10, 3) := by decide +kernel
theorem dX5_overlap_59 : decode cX5_overlap 59 = .ok (.getfield 97, 3) := by decide +kernel
theorem dX5_overlap_62 : decode cX5_overlap 62 = .ok (.invokevirtual 149, 3) := by decide +kernel
theorem dX5_overlap_65 : decode cX5_overlap 65 = .ok (.aload_n 0, 1) := by decide +kernel
theorem dX5_overlap_66 : decode cX5_overlap 66 = .ok (.getfield 50, 3) := by decide +kernel
theorem dX5_overlap_69 : decode cX5_overlap 69 = .ok (.iload_n 1, 1) := by decide +kernel
theorem dX5_overlap_70 : decode cX5_overlap 70 = .ok (.iload_n 2, 1) := by decide +kernel
theorem dX5_overlap_71 : decode cX5_overlap 71 = .ok (.aload_n 0, 1) := by decide +kernel
theorem dX5_overlap_72 : decode cX5_overlap 72 = .ok (.getfield 10, 3) := by decide +kernel
theorem dX5_overlap_75 : decode cX5_overlap 75 = .ok (.getfield 97, 3) := by decide +kernel
theorem dX5_overlap_78 : decode cX5_overlap 78 = .ok (.invokevirtual 161, 3) := by decide +kernel
theorem dX5_overlap_81 : decode cX5_overlap 81 = .ok (.i2l, 1) := by decide +kernel
theorem dX5_overlap_82 : decode cX5_overlap 82 = .ok (.lstore 5, 2) := by decide +kernel
theorem dX5_overlap_84 : decode cX5_overlap 84 = .ok (.aload_n 0, 1) := by decide +kernel
theorem dX5_overlap_85 : decode cX5_overlap 85 = .ok (.getfield 50, 3) := by decide +kernel
theorem dX5_overlap_88 : decode cX5_overlap 88 = .ok (.iload_n 1, 1) := by decide +kernel
theorem dX5_overlap_89 : decode cX5_overlap 89 = .ok (.aload_n 0, 1) := by decide +kernel
theorem dX5_overlap_90 : decode cX5_overlap 90 = .ok (.getfield 10, 3) := by decide +kernel
theorem dX5_overlap_93 : decode cX5_overlap 93 = .ok (.getfield 97, 3) := by decide +kernel
theorem dX5_overlap_96 : decode cX5_overlap 96 = .ok (.invokevirtual 165, 3) := by decide +kernel
theorem dX5_overlap_99 : decode cX5_overlap 99 = .ok (.i2l, 1) := by decide +kernel
theorem dX5_overlap_100 : decode cX5_overlap 100 = .ok (.aload_n 0, 1) := by decide +kernel
theorem dX5_overlap_101 : decode cX5_overlap 101 = .ok (.getfield 50, 3) := by decide +kernel
theorem dX5_overlap_104 : decode cX5_overlap 104 = .ok (.iload_n 2, 1) := by decide +kernel
theorem dX5_overlap_105 : decode cX5_overlap 105 = .ok (.aload_n 0, 1) := by decide +kernel
theorem dX5_overlap_106 : decode cX5_overlap 106 = .ok (.getfield 10, 3) := by decide +kernel
theorem dX5_overlap_109 : decode cX5_overlap 109 = .ok (.getfield 97, 3) := by decide +kernel
theorem dX5_overlap_112 : decode cX5_overlap 112 = .ok (.invokevirtual 165, 3) := by decide +kernel
theorem dX5_overlap_115 : decode cX5_overlap 115 = .ok (.i2l, 1) := by decide +kernel
theorem dX5_overlap_116 : decode cX5_overlap 116 = .ok (.lmul, 1) := by decide +kernel
theorem dX5_overlap_117 : decode cX5_overlap 117 = .ok (.lstore 7, 2) := by decide +kernel
theorem dX5_overlap_119 : decode cX5_overlap 119 = .ok (.lload 5, 2) := by decide +kernel
theorem dX5_overlap_121 : decode cX5_overlap 121 = .ok (.lload_n 3, 1) := by decide +kernel
theorem dX5_overlap_122 : decode cX5_overlap 122 = .ok (.lmul, 1) := by decide +kernel
theorem dX5_overlap_123 : decode cX5_overlap 123 = .ok (.lload 7, 2) := by decide +kernel
theorem dX5_overlap_125 : decode cX5_overlap 125 = .ok (.lsub, 1) := by decide +kernel
theorem dX5_overlap_126 : decode cX5_overlap 126 = .ok (.ldc2_w 168, 3) := by decide +kernel
theorem dX5_overlap_129 : decode cX5_overlap 129 = .ok (.lmul, 1) := by decide +kernel
theorem dX5_overlap_130 : decode cX5_overlap 130 = .ok (.lload_n 3, 1) := by decide +kernel
theorem dX5_overlap_131 : decode cX5_overlap 131 = .ok (.lload_n 3, 1) := by decide +kernel
theorem dX5_overlap_132 : decode cX5_overlap 132 = .ok (.lmul, 1) := by decide +kernel
theorem dX5_overlap_133 : decode cX5_overlap 133 = .ok (.ldiv, 1) := by decide +kernel
theorem dX5_overlap_134 : decode cX5_overlap 134 = .ok (.l2i, 1) := by decide +kernel
theorem dX5_overlap_135 : decode cX5_overlap 135 = .ok (.ireturn, 1) := by decide +kernel
theorem dX5_errorAt_0 : decode cX5_errorAt 0 = .ok (.aload_n 0, 1) := by decide +kernel
theorem dX5_errorAt_1 : decode cX5_errorAt 1 = .ok (.getfield 10, 3) := by decide +kernel
theorem dX5_errorAt_4 : decode cX5_errorAt 4 = .ok (.iload_n 1, 1) := by decide +kernel
theorem dX5_errorAt_5 : decode cX5_errorAt 5 = .ok (.invokevirtual 63, 3) := by decide +kernel
theorem dX5_errorAt_8 : decode cX5_errorAt 8 = .ok (.ifCond .ne 6, 3) := by decide +kernel
theorem dX5_errorAt_11 : decode cX5_errorAt 11 = .ok (.ldc 67, 2) := by decide +kernel
theorem dX5_errorAt_13 : decode cX5_errorAt 13 = .ok (.ireturn, 1) := by decide +kernel
theorem dX5_errorAt_14 : decode cX5_errorAt 14 = .ok (.iload_n 2, 1) := by decide +kernel
theorem dX5_errorAt_15 : decode cX5_errorAt 15 = .ok (.iconst 1, 1) := by decide +kernel
theorem dX5_errorAt_16 : decode cX5_errorAt 16 = .ok (.sipush 1000, 3) := by decide +kernel
theorem dX5_errorAt_19 : decode cX5_errorAt 19 = .ok (.invokestatic 68, 3) := by decide +kernel
theorem dX5_errorAt_22 : decode cX5_errorAt 22 = .ok (.ifCond .ne 6, 3) := by decide +kernel
theorem dX5_errorAt_25 : decode cX5_errorAt 25 = .ok (.ldc 58, 2) := by decide +kernel
theorem dX5_errorAt_27 : decode cX5_errorAt 27 = .ok (.ireturn, 1) := by decide +kernel
theorem dX5_errorAt_28 : decode cX5_errorAt 28 = .ok (.aload_n 0, 1) := by decide +kernel
theorem dX5_errorAt_29 : decode cX5_errorAt 29 = .ok (.iload_n 1, 1) := by decide +kernel
theorem dX5_errorAt_30 : decode cX5_errorAt 30 = .ok (.iload_n 2, 1) := by decide +kernel
theorem dX5_errorAt_31 : decode cX5_errorAt 31 = .ok (.invokevirtual 140, 3) := by decide +kernel
theorem dX5_errorAt_34 : decode cX5_errorAt 34 = .ok (.ireturn, 1) := by decide +kernel
theorem dX5_settles_0 : decode cX5_settles 0 = .ok (.aload_n 0, 1) := by decide +kernel
theorem dX5_settles_1 : decode cX5_settles 1 = .ok (.getfield 10, 3) := by decide +kernel
theorem dX5_settles_4 : decode cX5_settles 4 = .ok (.iload_n 1, 1) := by decide +kernel
theorem dX5_settles_5 : decode cX5_settles 5 = .ok (.invokevirtual 63, 3) := by decide +kernel
theorem dX5_settles_8 : decode cX5_settles 8 = .ok (.ifCond .ne 6, 3) := by decide +kernel
theorem dX5_settles_11 : decode cX5_settles 11 = .ok (.ldc 67, 2) := by decide +kernel
theorem dX5_settles_13 : decode cX5_settles 13 = .ok (.ireturn, 1) := by decide +kernel
theorem dX5_settles_14 : decode cX5_settles 14 = .ok (.iload_n 2, 1) := by decide +kernel
theorem dX5_settles_15 : decode cX5_settles 15 = .ok (.iconst 0, 1) := by decide +kernel
theorem dX5_settles_16 : decode cX5_settles 16 = .ok (.ldc 170, 2) := by decide +kernel
theorem dX5_settles_18 : decode cX5_settles 18 = .ok (.invokestatic 68, 3) := by decide +kernel
theorem dX5_settles_21 : decode cX5_settles 21 = .ok (.ifCond .ne 6, 3) := by decide +kernel
theorem dX5_settles_24 : decode cX5_settles 24 = .ok (.ldc 58, 2) := by decide +kernel
theorem dX5_settles_26 : decode cX5_settles 26 = .ok (.ireturn, 1) := by decide +kernel
theorem dX5_settles_27 : decode cX5_settles 27 = .ok (.aload_n 0, 1) := by decide +kernel
theorem dX5_settles_28 : decode cX5_settles 28 = .ok (.iload_n 1, 1) := by decide +kernel
theorem dX5_settles_29 : decode cX5_settles 29 = .ok (.iload_n 2, 1) := by decide +kernel
theorem dX5_settles_30 : decode cX5_settles 30 = .ok (.invokevirtual 171, 3) := by decide +kernel
theorem dX5_settles_33 : decode cX5_settles 33 = .ok (.istore_n 3, 1) := by decide +kernel
theorem dX5_settles_34 : decode cX5_settles 34 = .ok (.iload_n 3, 1) := by decide +kernel
theorem dX5_settles_35 : decode cX5_settles 35 = .ok (.sipush 1000, 3) := by decide +kernel
theorem dX5_settles_38 : decode cX5_settles 38 = .ok (.if_icmp .ne 8, 3) := by decide +kernel
theorem dX5_settles_41 : decode cX5_settles 41 = .ok (.ldc 81, 2) := by decide +kernel
theorem dX5_settles_43 : decode cX5_settles 43 = .ok (.goto 6, 3) := by decide +kernel
theorem dX5_settles_46 : decode cX5_settles 46 = .ok (.iload_n 3, 1) := by decide +kernel
theorem dX5_settles_47 : decode cX5_settles 47 = .ok (.iconst 1, 1) := by decide +kernel
theorem dX5_settles_48 : decode cX5_settles 48 = .ok (.iadd, 1) := by decide +kernel
theorem dX5_settles_49 : decode cX5_settles 49 = .ok (.ireturn, 1) := by decide +kernel
theorem dX5_bestSeed_0 : decode cX5_bestSeed 0 = .ok (.aload_n 0, 1) := by decide +kernel
theorem dX5_bestSeed_1 : decode cX5_bestSeed 1 = .ok (.getfield 10, 3) := by decide +kernel
theorem dX5_bestSeed_4 : decode cX5_bestSeed 4 = .ok (.iload_n 1, 1) := by decide +kernel
theorem dX5_bestSeed_5 : decode cX5_bestSeed 5 = .ok (.invokevirtual 63, 3) := by decide +kernel
theorem dX5_bestSeed_8 : decode cX5_bestSeed 8 = .ok (.ifCond .eq 14, 3) := by decide +kernel
theorem dX5_bestSeed_11 : decode cX5_bestSeed 11 = .ok (.aload_n 0, 1) := by decide +kernel
theorem dX5_bestSeed_12 : decode cX5_bestSeed 12 = .ok (.getfield 10, 3) := by decide +kernel
theorem dX5_bestSeed_15 : decode cX5_bestSeed 15 = .ok (.iload_n 2, 1) := by decide +kernel
theorem dX5_bestSeed_16 : decode cX5_bestSeed 16 = .ok (.invokevirtual 63, 3) := by decide +kernel
theorem dX5_bestSeed_19 : decode cX5_bestSeed 19 = .ok (.ifCond .ne 6, 3) := by decide +kernel
theorem dX5_bestSeed_22 : decode cX5_bestSeed 22 = .ok (.ldc 67, 2) := by decide +kernel
theorem dX5_bestSeed_24 : decode cX5_bestSeed 24 = .ok (.ireturn, 1) := by decide +kernel
theorem dX5_bestSeed_25 : decode cX5_bestSeed 25 = .ok (.iload_n 3, 1) := by decide +kernel
theorem dX5_bestSeed_26 : decode cX5_bestSeed 26 = .ok (.iconst 0, 1) := by decide +kernel
theorem dX5_bestSeed_27 : decode cX5_bestSeed 27 = .ok (.iconst 1, 1) := by decide +kernel
theorem dX5_bestSeed_28 : decode cX5_bestSeed 28 = .ok (.invokestatic 68, 3) := by decide +kernel
theorem dX5_bestSeed_31 : decode cX5_bestSeed 31 = .ok (.ifCond .ne 6, 3) := by decide +kernel
theorem dX5_bestSeed_34 : decode cX5_bestSeed 34 = .ok (.ldc 58, 2) := by decide +kernel
theorem dX5_bestSeed_36 : decode cX5_bestSeed 36 = .ok (.ireturn, 1) := by decide +kernel
theorem dX5_bestSeed_37 : decode cX5_bestSeed 37 = .ok (.aload_n 0, 1) := by decide +kernel
theorem dX5_bestSeed_38 : decode cX5_bestSeed 38 = .ok (.getfield 10, 3) := by decide +kernel
theorem dX5_bestSeed_41 : decode cX5_bestSeed 41 = .ok (.iload_n 1, 1) := by decide +kernel
theorem dX5_bestSeed_42 : decode cX5_bestSeed 42 = .ok (.invokevirtual 72, 3) := by decide +kernel
theorem dX5_bestSeed_45 : decode cX5_bestSeed 45 = .ok (.ifCond .eq 6, 3) := by decide +kernel
theorem dX5_bestSeed_48 : decode cX5_bestSeed 48 = .ok (.ldc 76, 2) := by decide +kernel
theorem dX5_bestSeed_50 : decode cX5_bestSeed 50 = .ok (.ireturn, 1) := by decide +kernel
theorem dX5_bestSeed_51 : decode cX5_bestSeed 51 = .ok (.aload_n 0, 1) := by decide +kernel
theorem dX5_bestSeed_52 : decode cX5_bestSeed 52 = .ok (.getfield 43, 3) := by decide +kernel
theorem dX5_bestSeed_55 : decode cX5_bestSeed 55 = .ok (.aload_n 0, 1) := by decide +kernel
theorem dX5_bestSeed_56 : decode cX5_bestSeed 56 = .ok (.getfield 10, 3) := by decide +kernel
theorem dX5_bestSeed_59 : decode cX5_bestSeed 59 = .ok (.invokevirtual 134, 3) := by decide +kernel
theorem dX5_bestSeed_62 : decode cX5_bestSeed 62 = .ok (.aload_n 0, 1) := by decide +kernel
theorem dX5_bestSeed_63 : decode cX5_bestSeed 63 = .ok (.getfield 50, 3) := by decide +kernel
theorem dX5_bestSeed_66 : decode cX5_bestSeed 66 = .ok (.aload_n 0, 1) := by decide +kernel
theorem dX5_bestSeed_67 : decode cX5_bestSeed 67 = .ok (.getfield 10, 3) := by decide +kernel
theorem dX5_bestSeed_70 : decode cX5_bestSeed 70 = .ok (.iload_n 2, 1) := by decide +kernel
theorem dX5_bestSeed_71 : decode cX5_bestSeed 71 = .ok (.aload_n 0, 1) := by decide +kernel
theorem dX5_bestSeed_72 : decode cX5_bestSeed 72 = .ok (.getfield 10, 3) := by decide +kernel
theorem dX5_bestSeed_75 : decode cX5_bestSeed 75 = .ok (.getfield 97, 3) := by decide +kernel
theorem dX5_bestSeed_78 : decode cX5_bestSeed 78 = .ok (.invokevirtual 149, 3) := by decide +kernel
theorem dX5_bestSeed_81 : decode cX5_bestSeed 81 = .ok (.aload_n 0, 1) := by decide +kernel
theorem dX5_bestSeed_82 : decode cX5_bestSeed 82 = .ok (.getfield 23, 3) := by decide +kernel
theorem dX5_bestSeed_85 : decode cX5_bestSeed 85 = .ok (.aload_n 0, 1) := by decide +kernel
theorem dX5_bestSeed_86 : decode cX5_bestSeed 86 = .ok (.getfield 10, 3) := by decide +kernel
theorem dX5_bestSeed_89 : decode cX5_bestSeed 89 = .ok (.invokevirtual 122, 3) := by decide +kernel
theorem dX5_bestSeed_92 : decode cX5_bestSeed 92 = .ok (.iconst 1, 1) := by decide +kernel
theorem dX5_bestSeed_93 : decode cX5_bestSeed 93 = .ok (.istore 4, 2) := by decide +kernel
theorem dX5_bestSeed_95 : decode cX5_bestSeed 95 = .ok (.aload_n 0, 1) := by decide +kernel
theorem dX5_bestSeed_96 : decode cX5_bestSeed 96 = .ok (.iload_n 1, 1) := by decide +kernel
theorem dX5_bestSeed_97 : decode cX5_bestSeed 97 = .ok (.iload_n 2, 1) := by decide +kernel
theorem dX5_bestSeed_98 : decode cX5_bestSeed 98 = .ok (.iload 4, 2) := by decide +kernel
theorem dX5_bestSeed_100 : decode cX5_bestSeed 100 = .ok (.invokevirtual 174, 3) := by decide +kernel
theorem dX5_bestSeed_103 : decode cX5_bestSeed 103 = .ok (.istore 5, 2) := by decide +kernel
theorem dX5_bestSeed_105 : decode cX5_bestSeed 105 = .ok (.iconst 2, 1) := by decide +kernel
theorem dX5_bestSeed_106 : decode cX5_bestSeed 106 = .ok (.istore 6, 2) := by decide +kernel
theorem dX5_bestSeed_108 : decode cX5_bestSeed 108 = .ok (.iload 6, 2) := by decide +kernel
theorem dX5_bestSeed_110 : decode cX5_bestSeed 110 = .ok (.sipush 255, 3) := by decide +kernel
theorem dX5_bestSeed_113 : decode cX5_bestSeed 113 = .ok (.if_icmp .gt 34, 3) := by decide +kernel
theorem dX5_bestSeed_116 : decode cX5_bestSeed 116 = .ok (.aload_n 0, 1) := by decide +kernel
theorem dX5_bestSeed_117 : decode cX5_bestSeed 117 = .ok (.iload_n 1, 1) := by decide +kernel
theorem dX5_bestSeed_118 : decode cX5_bestSeed 118 = .ok (.iload_n 2, 1) := by decide +kernel
theorem dX5_bestSeed_119 : decode cX5_bestSeed 119 = .ok (.iload 6, 2) := by decide +kernel
theorem dX5_bestSeed_121 : decode cX5_bestSeed 121 = .ok (.invokevirtual 174, 3) := by decide +kernel
theorem dX5_bestSeed_124 : decode cX5_bestSeed 124 = .ok (.istore 7, 2) := by decide +kernel
theorem dX5_bestSeed_126 : decode cX5_bestSeed 126 = .ok (.iload 7, 2) := by decide +kernel
theorem dX5_bestSeed_128 : decode cX5_bestSeed 128 = .ok (.iload 5, 2) := by decide +kernel
theorem dX5_bestSeed_130 : decode cX5_bestSeed 130 = .ok (.if_icmp .ge 11, 3) := by decide +kernel
theorem dX5_bestSeed_133 : decode cX5_bestSeed 133 = .ok (.iload 6, 2) := by decide +kernel
theorem dX5_bestSeed_135 : decode cX5_bestSeed 135 = .ok (.istore 4, 2) := by decide +kernel
theorem dX5_bestSeed_137 : decode cX5_bestSeed 137 = .ok (.iload 7, 2) := by decide +kernel
theorem dX5_bestSeed_139 : decode cX5_bestSeed 139 = .ok (.istore 5, 2) := by decide +kernel
theorem dX5_bestSeed_141 : decode cX5_bestSeed 141 = .ok (.iinc 6 1, 3) := by decide +kernel
theorem dX5_bestSeed_144 : decode cX5_bestSeed 144 = .ok (.goto (-36), 3) := by decide +kernel
theorem dX5_bestSeed_147 : decode cX5_bestSeed 147 = .ok (.iload_n 3, 1) := by decide +kernel
theorem dX5_bestSeed_148 : decode cX5_bestSeed 148 = .ok (.ifCond .ne 8, 3) := by decide +kernel
theorem dX5_bestSeed_151 : decode cX5_bestSeed 151 = .ok (.iload 4, 2) := by decide +kernel
theorem dX5_bestSeed_153 : decode cX5_bestSeed 153 = .ok (.goto 5, 3) := by decide +kernel
theorem dX5_bestSeed_156 : decode cX5_bestSeed 156 = .ok (.iload 5, 2) := by decide +kernel
theorem dX5_bestSeed_158 : decode cX5_bestSeed 158 = .ok (.ireturn, 1) := by decide +kernel
theorem dX5_unlike_0 : decode cX5_unlike 0 = .ok (.aload_n 0, 1) := by decide +kernel
theorem dX5_unlike_1 : decode cX5_unlike 1 = .ok (.getfield 10, 3) := by decide +kernel
theorem dX5_unlike_4 : decode cX5_unlike 4 = .ok (.iload_n 1, 1) := by decide +kernel
theorem dX5_unlike_5 : decode cX5_unlike 5 = .ok (.invokevirtual 63, 3) := by decide +kernel
theorem dX5_unlike_8 : decode cX5_unlike 8 = .ok (.ifCond .ne 6, 3) := by decide +kernel
theorem dX5_unlike_11 : decode cX5_unlike 11 = .ok (.ldc 67, 2) := by decide +kernel
theorem dX5_unlike_13 : decode cX5_unlike 13 = .ok (.ireturn, 1) := by decide +kernel
theorem dX5_unlike_14 : decode cX5_unlike 14 = .ok (.aload_n 0, 1) := by decide +kernel
theorem dX5_unlike_15 : decode cX5_unlike 15 = .ok (.getfield 50, 3) := by decide +kernel
theorem dX5_unlike_18 : decode cX5_unlike 18 = .ok (.aload_n 0, 1) := by decide +kernel
theorem dX5_unlike_19 : decode cX5_unlike 19 = .ok (.getfield 10, 3) := by decide +kernel
theorem dX5_unlike_22 : decode cX5_unlike 22 = .ok (.iload_n 1, 1) := by decide +kernel
theorem dX5_unlike_23 : decode cX5_unlike 23 = .ok (.sipush 510, 3) := by decide +kernel
theorem dX5_unlike_26 : decode cX5_unlike 26 = .ok (.invokevirtual 149, 3) := by decide +kernel
theorem dX5_unlike_29 : decode cX5_unlike 29 = .ok (.iconst 0, 1) := by decide +kernel
theorem dX5_unlike_30 : decode cX5_unlike 30 = .ok (.istore_n 2, 1) := by decide +kernel
theorem dX5_unlike_31 : decode cX5_unlike 31 = .ok (.bipush 60, 2) := by decide +kernel
theorem dX5_unlike_33 : decode cX5_unlike 33 = .ok (.istore_n 3, 1) := by decide +kernel
theorem dX5_unlike_34 : decode cX5_unlike 34 = .ok (.iload_n 3, 1) := by decide +kernel
theorem dX5_unlike_35 : decode cX5_unlike 35 = .ok (.sipush 255, 3) := by decide +kernel
theorem dX5_unlike_38 : decode cX5_unlike 38 = .ok (.if_icmp .ge 37, 3) := by decide +kernel
theorem dX5_unlike_41 : decode cX5_unlike 41 = .ok (.aload_n 0, 1) := by decide +kernel
theorem dX5_unlike_42 : decode cX5_unlike 42 = .ok (.getfield 50, 3) := by decide +kernel
theorem dX5_unlike_45 : decode cX5_unlike 45 = .ok (.iload_n 1, 1) := by decide +kernel
theorem dX5_unlike_46 : decode cX5_unlike 46 = .ok (.iload_n 3, 1) := by decide +kernel
theorem dX5_unlike_47 : decode cX5_unlike 47 = .ok (.invokevirtual 153, 3) := by decide +kernel
theorem dX5_unlike_50 : decode cX5_unlike 50 = .ok (.aload_n 0, 1) := by decide +kernel
theorem dX5_unlike_51 : decode cX5_unlike 51 = .ok (.getfield 50, 3) := by decide +kernel
theorem dX5_unlike_54 : decode cX5_unlike 54 = .ok (.iload_n 1, 1) := by decide +kernel
theorem dX5_unlike_55 : decode cX5_unlike 55 = .ok (.iload_n 3, 1) := by decide +kernel
theorem dX5_unlike_56 : decode cX5_unlike 56 = .ok (.sipush 255, 3) := by decide +kernel
theorem dX5_unlike_59 : decode cX5_unlike 59 = .ok (.iadd, 1) := by decide +kernel
theorem dX5_unlike_60 : decode cX5_unlike 60 = .ok (.invokevirtual 153, 3) := by decide +kernel
theorem dX5_unlike_63 : decode cX5_unlike 63 = .ok (.if_icmp .eq 6, 3) := by decide +kernel
theorem dX5_unlike_66 : decode cX5_unlike 66 = .ok (.iinc 2 1, 3) := by decide +kernel
theorem dX5_unlike_69 : decode cX5_unlike 69 = .ok (.iinc 3 1, 3) := by decide +kernel
theorem dX5_unlike_72 : decode cX5_unlike 72 = .ok (.goto (-38), 3) := by decide +kernel
theorem dX5_unlike_75 : decode cX5_unlike 75 = .ok (.iload_n 2, 1) := by decide +kernel
theorem dX5_unlike_76 : decode cX5_unlike 76 = .ok (.ireturn, 1) := by decide +kernel
theorem dX5_count_0 : decode cX5_count 0 = .ok (.iload_n 1, 1) := by decide +kernel
theorem dX5_count_1 : decode cX5_count 1 = .ok (.tableswitch 123 0 7 #[47, 55, 63, 71, 76, 81, 107, 115], 47) := by decide +kernel
theorem dX5_count_48 : decode cX5_count 48 = .ok (.aload_n 0, 1) := by decide +kernel
theorem dX5_count_49 : decode cX5_count 49 = .ok (.getfield 10, 3) := by decide +kernel
theorem dX5_count_52 : decode cX5_count 52 = .ok (.getfield 90, 3) := by decide +kernel
theorem dX5_count_55 : decode cX5_count 55 = .ok (.ireturn, 1) := by decide +kernel
theorem dX5_count_56 : decode cX5_count 56 = .ok (.aload_n 0, 1) := by decide +kernel
theorem dX5_count_57 : decode cX5_count 57 = .ok (.getfield 10, 3) := by decide +kernel
theorem dX5_count_60 : decode cX5_count 60 = .ok (.getfield 97, 3) := by decide +kernel
theorem dX5_count_63 : decode cX5_count 63 = .ok (.ireturn, 1) := by decide +kernel
theorem dX5_count_64 : decode cX5_count 64 = .ok (.aload_n 0, 1) := by decide +kernel
theorem dX5_count_65 : decode cX5_count 65 = .ok (.getfield 10, 3) := by decide +kernel
theorem dX5_count_68 : decode cX5_count 68 = .ok (.invokevirtual 177, 3) := by decide +kernel
theorem dX5_count_71 : decode cX5_count 71 = .ok (.ireturn, 1) := by decide +kernel
theorem dX5_count_72 : decode cX5_count 72 = .ok (.aload_n 0, 1) := by decide +kernel
theorem dX5_count_73 : decode cX5_count 73 = .ok (.invokevirtual 181, 3) := by decide +kernel
theorem dX5_count_76 : decode cX5_count 76 = .ok (.ireturn, 1) := by decide +kernel
theorem dX5_count_77 : decode cX5_count 77 = .ok (.aload_n 0, 1) := by decide +kernel
theorem dX5_count_78 : decode cX5_count 78 = .ok (.invokevirtual 184, 3) := by decide +kernel
theorem dX5_count_81 : decode cX5_count 81 = .ok (.ireturn, 1) := by decide +kernel
theorem dX5_count_82 : decode cX5_count 82 = .ok (.aload_n 0, 1) := by decide +kernel
theorem dX5_count_83 : decode cX5_count 83 = .ok (.getfield 43, 3) := by decide +kernel
theorem dX5_count_86 : decode cX5_count 86 = .ok (.aload_n 0, 1) := by decide +kernel
theorem dX5_count_87 : decode cX5_count 87 = .ok (.getfield 10, 3) := by decide +kernel
theorem dX5_count_90 : decode cX5_count 90 = .ok (.invokevirtual 134, 3) := by decide +kernel
theorem dX5_count_93 : decode cX5_count 93 = .ok (.aload_n 0, 1) := by decide +kernel
theorem dX5_count_94 : decode cX5_count 94 = .ok (.getfield 43, 3) := by decide +kernel
theorem dX5_count_97 : decode cX5_count 97 = .ok (.aload_n 0, 1) := by decide +kernel
theorem dX5_count_98 : decode cX5_count 98 = .ok (.getfield 10, 3) := by decide +kernel
theorem dX5_count_101 : decode cX5_count 101 = .ok (.getfield 90, 3) := by decide +kernel
theorem dX5_count_104 : decode cX5_count 104 = .ok (.invokevirtual 187, 3) := by decide +kernel
theorem dX5_count_107 : decode cX5_count 107 = .ok (.ireturn, 1) := by decide +kernel
theorem dX5_count_108 : decode cX5_count 108 = .ok (.aload_n 0, 1) := by decide +kernel
theorem dX5_count_109 : decode cX5_count 109 = .ok (.getfield 29, 3) := by decide +kernel
theorem dX5_count_112 : decode cX5_count 112 = .ok (.getfield 118, 3) := by decide +kernel
theorem dX5_count_115 : decode cX5_count 115 = .ok (.ireturn, 1) := by decide +kernel
theorem dX5_count_116 : decode cX5_count 116 = .ok (.aload_n 0, 1) := by decide +kernel
theorem dX5_count_117 : decode cX5_count 117 = .ok (.getfield 36, 3) := by decide +kernel
theorem dX5_count_120 : decode cX5_count 120 = .ok (.getfield 113, 3) := by decide +kernel
theorem dX5_count_123 : decode cX5_count 123 = .ok (.ireturn, 1) := by decide +kernel
theorem dX5_count_124 : decode cX5_count 124 = .ok (.ldc 58, 2) := by decide +kernel
theorem dX5_count_126 : decode cX5_count 126 = .ok (.ireturn, 1) := by decide +kernel
theorem dX5_addLine_0 : decode cX5_addLine 0 = .ok (.aload_n 0, 1) := by decide +kernel
theorem dX5_addLine_1 : decode cX5_addLine 1 = .ok (.getfield 10, 3) := by decide +kernel
theorem dX5_addLine_4 : decode cX5_addLine 4 = .ok (.getfield 90, 3) := by decide +kernel
theorem dX5_addLine_7 : decode cX5_addLine 7 = .ok (.bipush 16, 2) := by decide +kernel
theorem dX5_addLine_9 : decode cX5_addLine 9 = .ok (.if_icmp .lt 6, 3) := by decide +kernel
theorem dX5_addLine_12 : decode cX5_addLine 12 = .ok (.ldc 109, 2) := by decide +kernel
theorem dX5_addLine_14 : decode cX5_addLine 14 = .ok (.ireturn, 1) := by decide +kernel
theorem dX5_addLine_15 : decode cX5_addLine 15 = .ok (.aload_n 0, 1) := by decide +kernel
theorem dX5_addLine_16 : decode cX5_addLine 16 = .ok (.getfield 29, 3) := by decide +kernel
theorem dX5_addLine_19 : decode cX5_addLine 19 = .ok (.aload_n 0, 1) := by decide +kernel
theorem dX5_addLine_20 : decode cX5_addLine 20 = .ok (.getfield 10, 3) := by decide +kernel
theorem dX5_addLine_23 : decode cX5_addLine 23 = .ok (.invokevirtual 82, 3) := by decide +kernel
theorem dX5_addLine_26 : decode cX5_addLine 26 = .ok (.aload_n 0, 1) := by decide +kernel
theorem dX5_addLine_27 : decode cX5_addLine 27 = .ok (.getfield 10, 3) := by decide +kernel
theorem dX5_addLine_30 : decode cX5_addLine 30 = .ok (.iload_n 1, 1) := by decide +kernel
theorem dX5_addLine_31 : decode cX5_addLine 31 = .ok (.iload_n 2, 1) := by decide +kernel
theorem dX5_addLine_32 : decode cX5_addLine 32 = .ok (.iload_n 3, 1) := by decide +kernel
theorem dX5_addLine_33 : decode cX5_addLine 33 = .ok (.iload 4, 2) := by decide +kernel
theorem dX5_addLine_35 : decode cX5_addLine 35 = .ok (.invokevirtual 190, 3) := by decide +kernel
theorem dX5_addLine_38 : decode cX5_addLine 38 = .ok (.aload_n 0, 1) := by decide +kernel
theorem dX5_addLine_39 : decode cX5_addLine 39 = .ok (.getfield 10, 3) := by decide +kernel
theorem dX5_addLine_42 : decode cX5_addLine 42 = .ok (.getfield 90, 3) := by decide +kernel
theorem dX5_addLine_45 : decode cX5_addLine 45 = .ok (.iconst 1, 1) := by decide +kernel
theorem dX5_addLine_46 : decode cX5_addLine 46 = .ok (.isub, 1) := by decide +kernel
theorem dX5_addLine_47 : decode cX5_addLine 47 = .ok (.ireturn, 1) := by decide +kernel
theorem dX5_onesOver_0 : decode cX5_onesOver 0 = .ok (.aload_n 0, 1) := by decide +kernel
theorem dX5_onesOver_1 : decode cX5_onesOver 1 = .ok (.getfield 50, 3) := by decide +kernel
theorem dX5_onesOver_4 : decode cX5_onesOver 4 = .ok (.aload_n 0, 1) := by decide +kernel
theorem dX5_onesOver_5 : decode cX5_onesOver 5 = .ok (.getfield 10, 3) := by decide +kernel
theorem dX5_onesOver_8 : decode cX5_onesOver 8 = .ok (.iload_n 1, 1) := by decide +kernel
theorem dX5_onesOver_9 : decode cX5_onesOver 9 = .ok (.iload_n 2, 1) := by decide +kernel
theorem dX5_onesOver_10 : decode cX5_onesOver 10 = .ok (.invokevirtual 149, 3) := by decide +kernel
theorem dX5_onesOver_13 : decode cX5_onesOver 13 = .ok (.aload_n 0, 1) := by decide +kernel
theorem dX5_onesOver_14 : decode cX5_onesOver 14 = .ok (.getfield 50, 3) := by decide +kernel
theorem dX5_onesOver_17 : decode cX5_onesOver 17 = .ok (.iload_n 1, 1) := by decide +kernel
theorem dX5_onesOver_18 : decode cX5_onesOver 18 = .ok (.iload_n 2, 1) := by decide +kernel
theorem dX5_onesOver_19 : decode cX5_onesOver 19 = .ok (.invokevirtual 165, 3) := by decide +kernel
theorem dX5_onesOver_22 : decode cX5_onesOver 22 = .ok (.ireturn, 1) := by decide +kernel
theorem dX5_errorOver_0 : decode cX5_errorOver 0 = .ok (.aload_n 0, 1) := by decide +kernel
theorem dX5_errorOver_1 : decode cX5_errorOver 1 = .ok (.getfield 43, 3) := by decide +kernel
theorem dX5_errorOver_4 : decode cX5_errorOver 4 = .ok (.aload_n 0, 1) := by decide +kernel
theorem dX5_errorOver_5 : decode cX5_errorOver 5 = .ok (.getfield 10, 3) := by decide +kernel
theorem dX5_errorOver_8 : decode cX5_errorOver 8 = .ok (.invokevirtual 134, 3) := by decide +kernel
theorem dX5_errorOver_11 : decode cX5_errorOver 11 = .ok (.aload_n 0, 1) := by decide +kernel
theorem dX5_errorOver_12 : decode cX5_errorOver 12 = .ok (.getfield 50, 3) := by decide +kernel
theorem dX5_errorOver_15 : decode cX5_errorOver 15 = .ok (.aload_n 0, 1) := by decide +kernel
theorem dX5_errorOver_16 : decode cX5_errorOver 16 = .ok (.getfield 10, 3) := by decide +kernel
theorem dX5_errorOver_19 : decode cX5_errorOver 19 = .ok (.iload_n 1, 1) := by decide +kernel
theorem dX5_errorOver_20 : decode cX5_errorOver 20 = .ok (.iload_n 2, 1) := by decide +kernel
theorem dX5_errorOver_21 : decode cX5_errorOver 21 = .ok (.invokevirtual 149, 3) := by decide +kernel
theorem dX5_errorOver_24 : decode cX5_errorOver 24 = .ok (.aload_n 0, 1) := by decide +kernel
theorem dX5_errorOver_25 : decode cX5_errorOver 25 = .ok (.iload_n 1, 1) := by decide +kernel
theorem dX5_errorOver_26 : decode cX5_errorOver 26 = .ok (.iload_n 2, 1) := by decide +kernel
theorem dX5_errorOver_27 : decode cX5_errorOver 27 = .ok (.invokevirtual 194, 3) := by decide +kernel
theorem dX5_errorOver_30 : decode cX5_errorOver 30 = .ok (.ireturn, 1) := by decide +kernel
theorem dX5_errorOfFilled_0 : decode cX5_errorOfFilled 0 = .ok (.aload_n 0, 1) := by decide +kernel
theorem dX5_errorOfFilled_1 : decode cX5_errorOfFilled 1 = .ok (.iload_n 1, 1) := by decide +kernel
theorem dX5_errorOfFilled_2 : decode cX5_errorOfFilled 2 = .ok (.aload_n 0, 1) := by decide +kernel
theorem dX5_errorOfFilled_3 : decode cX5_errorOfFilled 3 = .ok (.getfield 50, 3) := by decide +kernel
theorem dX5_errorOfFilled_6 : decode cX5_errorOfFilled 6 = .ok (.iload_n 1, 1) := by decide +kernel
theorem dX5_errorOfFilled_7 : decode cX5_errorOfFilled 7 = .ok (.iload_n 2, 1) := by decide +kernel
theorem dX5_errorOfFilled_8 : decode cX5_errorOfFilled 8 = .ok (.invokevirtual 165, 3) := by decide +kernel
theorem dX5_errorOfFilled_11 : decode cX5_errorOfFilled 11 = .ok (.iload_n 2, 1) := by decide +kernel
theorem dX5_errorOfFilled_12 : decode cX5_errorOfFilled 12 = .ok (.invokevirtual 197, 3) := by decide +kernel
theorem dX5_errorOfFilled_15 : decode cX5_errorOfFilled 15 = .ok (.ireturn, 1) := by decide +kernel
theorem dX5_errorOfCount_0 : decode cX5_errorOfCount 0 = .ok (.iload_n 2, 1) := by decide +kernel
theorem dX5_errorOfCount_1 : decode cX5_errorOfCount 1 = .ok (.iload_n 3, 1) := by decide +kernel
theorem dX5_errorOfCount_2 : decode cX5_errorOfCount 2 = .ok (.invokestatic 131, 3) := by decide +kernel
theorem dX5_errorOfCount_5 : decode cX5_errorOfCount 5 = .ok (.aload_n 0, 1) := by decide +kernel
theorem dX5_errorOfCount_6 : decode cX5_errorOfCount 6 = .ok (.getfield 43, 3) := by decide +kernel
theorem dX5_errorOfCount_9 : decode cX5_errorOfCount 9 = .ok (.iload_n 1, 1) := by decide +kernel
theorem dX5_errorOfCount_10 : decode cX5_errorOfCount 10 = .ok (.invokevirtual 137, 3) := by decide +kernel
theorem dX5_errorOfCount_13 : decode cX5_errorOfCount 13 = .ok (.isub, 1) := by decide +kernel
theorem dX5_errorOfCount_14 : decode cX5_errorOfCount 14 = .ok (.invokestatic 200, 3) := by decide +kernel
theorem dX5_errorOfCount_17 : decode cX5_errorOfCount 17 = .ok (.ireturn, 1) := by decide +kernel
theorem dX5_lastLengthBeyond_0 : decode cX5_lastLengthBeyond 0 = .ok (.aload_n 0, 1) := by decide +kernel
theorem dX5_lastLengthBeyond_1 : decode cX5_lastLengthBeyond 1 = .ok (.getfield 43, 3) := by decide +kernel
theorem dX5_lastLengthBeyond_4 : decode cX5_lastLengthBeyond 4 = .ok (.aload_n 0, 1) := by decide +kernel
theorem dX5_lastLengthBeyond_5 : decode cX5_lastLengthBeyond 5 = .ok (.getfield 10, 3) := by decide +kernel
theorem dX5_lastLengthBeyond_8 : decode cX5_lastLengthBeyond 8 = .ok (.invokevirtual 134, 3) := by decide +kernel
theorem dX5_lastLengthBeyond_11 : decode cX5_lastLengthBeyond 11 = .ok (.aload_n 0, 1) := by decide +kernel
theorem dX5_lastLengthBeyond_12 : decode cX5_lastLengthBeyond 12 = .ok (.getfield 50, 3) := by decide +kernel
theorem dX5_lastLengthBeyond_15 : decode cX5_lastLengthBeyond 15 = .ok (.aload_n 0, 1) := by decide +kernel
theorem dX5_lastLengthBeyond_16 : decode cX5_lastLengthBeyond 16 = .ok (.getfield 10, 3) := by decide +kernel
theorem dX5_lastLengthBeyond_19 : decode cX5_lastLengthBeyond 19 = .ok (.iload_n 1, 1) := by decide +kernel
theorem dX5_lastLengthBeyond_20 : decode cX5_lastLengthBeyond 20 = .ok (.sipush 1000, 3) := by decide +kernel
theorem dX5_lastLengthBeyond_23 : decode cX5_lastLengthBeyond 23 = .ok (.invokevirtual 149, 3) := by decide +kernel
theorem dX5_lastLengthBeyond_26 : decode cX5_lastLengthBeyond 26 = .ok (.iconst 0, 1) := by decide +kernel
theorem dX5_lastLengthBeyond_27 : decode cX5_lastLengthBeyond 27 = .ok (.istore_n 3, 1) := by decide +kernel
theorem dX5_lastLengthBeyond_28 : decode cX5_lastLengthBeyond 28 = .ok (.iconst 0, 1) := by decide +kernel
theorem dX5_lastLengthBeyond_29 : decode cX5_lastLengthBeyond 29 = .ok (.istore 4, 2) := by decide +kernel
theorem dX5_lastLengthBeyond_31 : decode cX5_lastLengthBeyond 31 = .ok (.iconst 1, 1) := by decide +kernel
theorem dX5_lastLengthBeyond_32 : decode cX5_lastLengthBeyond 32 = .ok (.istore 5, 2) := by decide +kernel
theorem dX5_lastLengthBeyond_34 : decode cX5_lastLengthBeyond 34 = .ok (.iload 5, 2) := by decide +kernel
theorem dX5_lastLengthBeyond_36 : decode cX5_lastLengthBeyond 36 = .ok (.sipush 1000, 3) := by decide +kernel
theorem dX5_lastLengthBeyond_39 : decode cX5_lastLengthBeyond 39 = .ok (.if_icmp .gt 42, 3) := by decide +kernel
theorem dX5_lastLengthBeyond_42 : decode cX5_lastLengthBeyond 42 = .ok (.iload 4, 2) := by decide +kernel
theorem dX5_lastLengthBeyond_44 : decode cX5_lastLengthBeyond 44 = .ok (.aload_n 0, 1) := by decide +kernel
theorem dX5_lastLengthBeyond_45 : decode cX5_lastLengthBeyond 45 = .ok (.getfield 50, 3) := by decide +kernel
theorem dX5_lastLengthBeyond_48 : decode cX5_lastLengthBeyond 48 = .ok (.iload_n 1, 1) := by decide +kernel
theorem dX5_lastLengthBeyond_49 : decode cX5_lastLengthBeyond 49 = .ok (.iload 5, 2) := by decide +kernel
theorem dX5_lastLengthBeyond_51 : decode cX5_lastLengthBeyond 51 = .ok (.iconst 1, 1) := by decide +kernel
theorem dX5_lastLengthBeyond_52 : decode cX5_lastLengthBeyond 52 = .ok (.isub, 1) := by decide +kernel
theorem dX5_lastLengthBeyond_53 : decode cX5_lastLengthBeyond 53 = .ok (.invokevirtual 153, 3) := by decide +kernel
theorem dX5_lastLengthBeyond_56 : decode cX5_lastLengthBeyond 56 = .ok (.iadd, 1) := by decide +kernel
theorem dX5_lastLengthBeyond_57 : decode cX5_lastLengthBeyond 57 = .ok (.istore 4, 2) := by decide +kernel
theorem dX5_lastLengthBeyond_59 : decode cX5_lastLengthBeyond 59 = .ok (.aload_n 0, 1) := by decide +kernel
theorem dX5_lastLengthBeyond_60 : decode cX5_lastLengthBeyond 60 = .ok (.iload_n 1, 1) := by decide +kernel
theorem dX5_lastLengthBeyond_61 : decode cX5_lastLengthBeyond 61 = .ok (.iload 4, 2) := by decide +kernel
theorem dX5_lastLengthBeyond_63 : decode cX5_lastLengthBeyond 63 = .ok (.iload 5, 2) := by decide +kernel
theorem dX5_lastLengthBeyond_65 : decode cX5_lastLengthBeyond 65 = .ok (.invokevirtual 197, 3) := by decide +kernel
theorem dX5_lastLengthBeyond_68 : decode cX5_lastLengthBeyond 68 = .ok (.iload_n 2, 1) := by decide +kernel
theorem dX5_lastLengthBeyond_69 : decode cX5_lastLengthBeyond 69 = .ok (.if_icmp .le 6, 3) := by decide +kernel
theorem dX5_lastLengthBeyond_72 : decode cX5_lastLengthBeyond 72 = .ok (.iload 5, 2) := by decide +kernel
theorem dX5_lastLengthBeyond_74 : decode cX5_lastLengthBeyond 74 = .ok (.istore_n 3, 1) := by decide +kernel
theorem dX5_lastLengthBeyond_75 : decode cX5_lastLengthBeyond 75 = .ok (.iinc 5 1, 3) := by decide +kernel
theorem dX5_lastLengthBeyond_78 : decode cX5_lastLengthBeyond 78 = .ok (.goto (-44), 3) := by decide +kernel
theorem dX5_lastLengthBeyond_81 : decode cX5_lastLengthBeyond 81 = .ok (.iload_n 3, 1) := by decide +kernel
theorem dX5_lastLengthBeyond_82 : decode cX5_lastLengthBeyond 82 = .ok (.ireturn, 1) := by decide +kernel
theorem dX5_errorWithSeed_0 : decode cX5_errorWithSeed 0 = .ok (.aload_n 0, 1) := by decide +kernel
theorem dX5_errorWithSeed_1 : decode cX5_errorWithSeed 1 = .ok (.getfield 23, 3) := by decide +kernel
theorem dX5_errorWithSeed_4 : decode cX5_errorWithSeed 4 = .ok (.iload_n 1, 1) := by decide +kernel
theorem dX5_errorWithSeed_5 : decode cX5_errorWithSeed 5 = .ok (.aload_n 0, 1) := by decide +kernel
theorem dX5_errorWithSeed_6 : decode cX5_errorWithSeed 6 = .ok (.getfield 23, 3) := by decide +kernel
theorem dX5_errorWithSeed_9 : decode cX5_errorWithSeed 9 = .ok (.iload_n 1, 1) := by decide +kernel
theorem dX5_errorWithSeed_10 : decode cX5_errorWithSeed 10 = .ok (.iconst 1, 1) := by decide +kernel
theorem dX5_errorWithSeed_11 : decode cX5_errorWithSeed 11 = .ok (.invokevirtual 77, 3) := by decide +kernel
theorem dX5_errorWithSeed_14 : decode cX5_errorWithSeed 14 = .ok (.iload_n 3, 1) := by decide +kernel
theorem dX5_errorWithSeed_15 : decode cX5_errorWithSeed 15 = .ok (.invokevirtual 86, 3) := by decide +kernel
theorem dX5_errorWithSeed_18 : decode cX5_errorWithSeed 18 = .ok (.aload_n 0, 1) := by decide +kernel
theorem dX5_errorWithSeed_19 : decode cX5_errorWithSeed 19 = .ok (.getfield 50, 3) := by decide +kernel
theorem dX5_errorWithSeed_22 : decode cX5_errorWithSeed 22 = .ok (.aload_n 0, 1) := by decide +kernel
theorem dX5_errorWithSeed_23 : decode cX5_errorWithSeed 23 = .ok (.getfield 23, 3) := by decide +kernel
theorem dX5_errorWithSeed_26 : decode cX5_errorWithSeed 26 = .ok (.iload_n 1, 1) := by decide +kernel
theorem dX5_errorWithSeed_27 : decode cX5_errorWithSeed 27 = .ok (.iload_n 2, 1) := by decide +kernel
theorem dX5_errorWithSeed_28 : decode cX5_errorWithSeed 28 = .ok (.aload_n 0, 1) := by decide +kernel
theorem dX5_errorWithSeed_29 : decode cX5_errorWithSeed 29 = .ok (.getfield 23, 3) := by decide +kernel
theorem dX5_errorWithSeed_32 : decode cX5_errorWithSeed 32 = .ok (.getfield 97, 3) := by decide +kernel
theorem dX5_errorWithSeed_35 : decode cX5_errorWithSeed 35 = .ok (.invokevirtual 203, 3) := by decide +kernel
theorem dX5_errorWithSeed_38 : decode cX5_errorWithSeed 38 = .ok (.aload_n 0, 1) := by decide +kernel
theorem dX5_errorWithSeed_39 : decode cX5_errorWithSeed 39 = .ok (.iload_n 2, 1) := by decide +kernel
theorem dX5_errorWithSeed_40 : decode cX5_errorWithSeed 40 = .ok (.aload_n 0, 1) := by decide +kernel
theorem dX5_errorWithSeed_41 : decode cX5_errorWithSeed 41 = .ok (.getfield 23, 3) := by decide +kernel
theorem dX5_errorWithSeed_44 : decode cX5_errorWithSeed 44 = .ok (.getfield 97, 3) := by decide +kernel
theorem dX5_errorWithSeed_47 : decode cX5_errorWithSeed 47 = .ok (.invokevirtual 194, 3) := by decide +kernel
theorem dX5_errorWithSeed_50 : decode cX5_errorWithSeed 50 = .ok (.ireturn, 1) := by decide +kernel
theorem dX5_sumOfErrors_0 : decode cX5_sumOfErrors 0 = .ok (.aload_n 0, 1) := by decide +kernel
theorem dX5_sumOfErrors_1 : decode cX5_sumOfErrors 1 = .ok (.invokevirtual 207, 3) := by decide +kernel
theorem dX5_sumOfErrors_4 : decode cX5_sumOfErrors 4 = .ok (.iconst 0, 1) := by decide +kernel
theorem dX5_sumOfErrors_5 : decode cX5_sumOfErrors 5 = .ok (.istore_n 1, 1) := by decide +kernel
theorem dX5_sumOfErrors_6 : decode cX5_sumOfErrors 6 = .ok (.iconst 0, 1) := by decide +kernel
theorem dX5_sumOfErrors_7 : decode cX5_sumOfErrors 7 = .ok (.istore_n 2, 1) := by decide +kernel
theorem dX5_sumOfErrors_8 : decode cX5_sumOfErrors 8 = .ok (.iload_n 2, 1) := by decide +kernel
theorem dX5_sumOfErrors_9 : decode cX5_sumOfErrors 9 = .ok (.aload_n 0, 1) := by decide +kernel
theorem dX5_sumOfErrors_10 : decode cX5_sumOfErrors 10 = .ok (.getfield 10, 3) := by decide +kernel
theorem dX5_sumOfErrors_13 : decode cX5_sumOfErrors 13 = .ok (.getfield 90, 3) := by decide +kernel
theorem dX5_sumOfErrors_16 : decode cX5_sumOfErrors 16 = .ok (.if_icmp .ge 24, 3) := by decide +kernel
theorem dX5_sumOfErrors_19 : decode cX5_sumOfErrors 19 = .ok (.iload_n 1, 1) := by decide +kernel
theorem dX5_sumOfErrors_20 : decode cX5_sumOfErrors 20 = .ok (.aload_n 0, 1) := by decide +kernel
theorem dX5_sumOfErrors_21 : decode cX5_sumOfErrors 21 = .ok (.iload_n 2, 1) := by decide +kernel
theorem dX5_sumOfErrors_22 : decode cX5_sumOfErrors 22 = .ok (.aload_n 0, 1) := by decide +kernel
theorem dX5_sumOfErrors_23 : decode cX5_sumOfErrors 23 = .ok (.getfield 10, 3) := by decide +kernel
theorem dX5_sumOfErrors_26 : decode cX5_sumOfErrors 26 = .ok (.getfield 97, 3) := by decide +kernel
theorem dX5_sumOfErrors_29 : decode cX5_sumOfErrors 29 = .ok (.invokevirtual 194, 3) := by decide +kernel
theorem dX5_sumOfErrors_32 : decode cX5_sumOfErrors 32 = .ok (.iadd, 1) := by decide +kernel
theorem dX5_sumOfErrors_33 : decode cX5_sumOfErrors 33 = .ok (.istore_n 1, 1) := by decide +kernel
theorem dX5_sumOfErrors_34 : decode cX5_sumOfErrors 34 = .ok (.iinc 2 1, 3) := by decide +kernel
theorem dX5_sumOfErrors_37 : decode cX5_sumOfErrors 37 = .ok (.goto (-29), 3) := by decide +kernel
theorem dX5_sumOfErrors_40 : decode cX5_sumOfErrors 40 = .ok (.iload_n 1, 1) := by decide +kernel
theorem dX5_sumOfErrors_41 : decode cX5_sumOfErrors 41 = .ok (.ireturn, 1) := by decide +kernel
theorem dX5_lineWithGreatestError_0 : decode cX5_lineWithGreatestError 0 = .ok (.aload_n 0, 1) := by decide +kernel
theorem dX5_lineWithGreatestError_1 : decode cX5_lineWithGreatestError 1 = .ok (.invokevirtual 207, 3) := by decide +kernel
theorem dX5_lineWithGreatestError_4 : decode cX5_lineWithGreatestError 4 = .ok (.ldc 81, 2) := by decide +kernel
theorem dX5_lineWithGreatestError_6 : decode cX5_lineWithGreatestError 6 = .ok (.istore_n 1, 1) := by decide +kernel
theorem dX5_lineWithGreatestError_7 : decode cX5_lineWithGreatestError 7 = .ok (.iconst (-1), 1) := by decide +kernel
theorem dX5_lineWithGreatestError_8 : decode cX5_lineWithGreatestError 8 = .ok (.istore_n 2, 1) := by decide +kernel
theorem dX5_lineWithGreatestError_9 : decode cX5_lineWithGreatestError 9 = .ok (.iconst 0, 1) := by decide +kernel
theorem dX5_lineWithGreatestError_10 : decode cX5_lineWithGreatestError 10 = .ok (.istore_n 3, 1) := by decide +kernel
theorem dX5_lineWithGreatestError_11 : decode cX5_lineWithGreatestError 11 = .ok (.iload_n 3, 1) := by decide +kernel
theorem dX5_lineWithGreatestError_12 : decode cX5_lineWithGreatestError 12 = .ok (.aload_n 0, 1) := by decide +kernel
theorem dX5_lineWithGreatestError_13 : decode cX5_lineWithGreatestError 13 = .ok (.getfield 10, 3) := by decide +kernel
theorem dX5_lineWithGreatestError_16 : decode cX5_lineWithGreatestError 16 = .ok (.getfield 90, 3) := by decide +kernel
theorem dX5_lineWithGreatestError_19 : decode cX5_lineWithGreatestError 19 = .ok (.if_icmp .ge 34, 3) := by decide +kernel
theorem dX5_lineWithGreatestError_22 : decode cX5_lineWithGreatestError 22 = .ok (.aload_n 0, 1) := by decide +kernel
theorem dX5_lineWithGreatestError_23 : decode cX5_lineWithGreatestError 23 = .ok (.iload_n 3, 1) := by decide +kernel
theorem dX5_lineWithGreatestError_24 : decode cX5_lineWithGreatestError 24 = .ok (.aload_n 0, 1) := by decide +kernel
theorem dX5_lineWithGreatestError_25 : decode cX5_lineWithGreatestError 25 = .ok (.getfield 10, 3) := by decide +kernel
theorem dX5_lineWithGreatestError_28 : decode cX5_lineWithGreatestError 28 = .ok (.getfield 97, 3) := by decide +kernel
theorem dX5_lineWithGreatestError_31 : decode cX5_lineWithGreatestError 31 = .ok (.invokevirtual 194, 3) := by decide +kernel
theorem dX5_lineWithGreatestError_34 : decode cX5_lineWithGreatestError 34 = .ok (.istore 4, 2) := by decide +kernel
theorem dX5_lineWithGreatestError_36 : decode cX5_lineWithGreatestError 36 = .ok (.iload 4, 2) := by decide +kernel
theorem dX5_lineWithGreatestError_38 : decode cX5_lineWithGreatestError 38 = .ok (.iload_n 2, 1) := by decide +kernel
theorem dX5_lineWithGreatestError_39 : decode cX5_lineWithGreatestError 39 = .ok (.if_icmp .le 8, 3) := by decide +kernel
theorem dX5_lineWithGreatestError_42 : decode cX5_lineWithGreatestError 42 = .ok (.iload 4, 2) := by decide +kernel
theorem dX5_lineWithGreatestError_44 : decode cX5_lineWithGreatestError 44 = .ok (.istore_n 2, 1) := by decide +kernel
theorem dX5_lineWithGreatestError_45 : decode cX5_lineWithGreatestError 45 = .ok (.iload_n 3, 1) := by decide +kernel
theorem dX5_lineWithGreatestError_46 : decode cX5_lineWithGreatestError 46 = .ok (.istore_n 1, 1) := by decide +kernel
theorem dX5_lineWithGreatestError_47 : decode cX5_lineWithGreatestError 47 = .ok (.iinc 3 1, 3) := by decide +kernel
theorem dX5_lineWithGreatestError_50 : decode cX5_lineWithGreatestError 50 = .ok (.goto (-39), 3) := by decide +kernel
theorem dX5_lineWithGreatestError_53 : decode cX5_lineWithGreatestError 53 = .ok (.iload_n 1, 1) := by decide +kernel
theorem dX5_lineWithGreatestError_54 : decode cX5_lineWithGreatestError 54 = .ok (.ireturn, 1) := by decide +kernel
theorem dX5_fillAll_0 : decode cX5_fillAll 0 = .ok (.aload_n 0, 1) := by decide +kernel
theorem dX5_fillAll_1 : decode cX5_fillAll 1 = .ok (.getfield 43, 3) := by decide +kernel
theorem dX5_fillAll_4 : decode cX5_fillAll 4 = .ok (.aload_n 0, 1) := by decide +kernel
theorem dX5_fillAll_5 : decode cX5_fillAll 5 = .ok (.getfield 10, 3) := by decide +kernel
theorem dX5_fillAll_8 : decode cX5_fillAll 8 = .ok (.invokevirtual 134, 3) := by decide +kernel
theorem dX5_fillAll_11 : decode cX5_fillAll 11 = .ok (.aload_n 0, 1) := by decide +kernel
theorem dX5_fillAll_12 : decode cX5_fillAll 12 = .ok (.getfield 50, 3) := by decide +kernel
theorem dX5_fillAll_15 : decode cX5_fillAll 15 = .ok (.aload_n 0, 1) := by decide +kernel
theorem dX5_fillAll_16 : decode cX5_fillAll 16 = .ok (.getfield 10, 3) := by decide +kernel
theorem dX5_fillAll_19 : decode cX5_fillAll 19 = .ok (.aload_n 0, 1) := by decide +kernel
theorem dX5_fillAll_20 : decode cX5_fillAll 20 = .ok (.getfield 10, 3) := by decide +kernel
theorem dX5_fillAll_23 : decode cX5_fillAll 23 = .ok (.getfield 90, 3) := by decide +kernel
theorem dX5_fillAll_26 : decode cX5_fillAll 26 = .ok (.iconst 1, 1) := by decide +kernel
theorem dX5_fillAll_27 : decode cX5_fillAll 27 = .ok (.isub, 1) := by decide +kernel
theorem dX5_fillAll_28 : decode cX5_fillAll 28 = .ok (.aload_n 0, 1) := by decide +kernel
theorem dX5_fillAll_29 : decode cX5_fillAll 29 = .ok (.getfield 10, 3) := by decide +kernel
theorem dX5_fillAll_32 : decode cX5_fillAll 32 = .ok (.getfield 97, 3) := by decide +kernel
theorem dX5_fillAll_35 : decode cX5_fillAll 35 = .ok (.invokevirtual 149, 3) := by decide +kernel
theorem dX5_fillAll_38 : decode cX5_fillAll 38 = .ok (.return_, 1) := by decide +kernel
theorem dX5_isMadeOfLinesAhead_0 : decode cX5_isMadeOfLinesAhead 0 = .ok (.iconst 0, 1) := by decide +kernel
theorem dX5_isMadeOfLinesAhead_1 : decode cX5_isMadeOfLinesAhead 1 = .ok (.istore_n 2, 1) := by decide +kernel
theorem dX5_isMadeOfLinesAhead_2 : decode cX5_isMadeOfLinesAhead 2 = .ok (.iload_n 2, 1) := by decide +kernel
theorem dX5_isMadeOfLinesAhead_3 : decode cX5_isMadeOfLinesAhead 3 = .ok (.aload_n 0, 1) := by decide +kernel
theorem dX5_isMadeOfLinesAhead_4 : decode cX5_isMadeOfLinesAhead 4 = .ok (.getfield 90, 3) := by decide +kernel
theorem dX5_isMadeOfLinesAhead_7 : decode cX5_isMadeOfLinesAhead 7 = .ok (.if_icmp .ge 48, 3) := by decide +kernel
theorem dX5_isMadeOfLinesAhead_10 : decode cX5_isMadeOfLinesAhead 10 = .ok (.aload_n 0, 1) := by decide +kernel
theorem dX5_isMadeOfLinesAhead_11 : decode cX5_isMadeOfLinesAhead 11 = .ok (.iload_n 2, 1) := by decide +kernel
theorem dX5_isMadeOfLinesAhead_12 : decode cX5_isMadeOfLinesAhead 12 = .ok (.invokevirtual 72, 3) := by decide +kernel
theorem dX5_isMadeOfLinesAhead_15 : decode cX5_isMadeOfLinesAhead 15 = .ok (.invokestatic 210, 3) := by decide +kernel
theorem dX5_isMadeOfLinesAhead_18 : decode cX5_isMadeOfLinesAhead 18 = .ok (.istore_n 3, 1) := by decide +kernel
theorem dX5_isMadeOfLinesAhead_19 : decode cX5_isMadeOfLinesAhead 19 = .ok (.iconst 1, 1) := by decide +kernel
theorem dX5_isMadeOfLinesAhead_20 : decode cX5_isMadeOfLinesAhead 20 = .ok (.istore 4, 2) := by decide +kernel
theorem dX5_isMadeOfLinesAhead_22 : decode cX5_isMadeOfLinesAhead 22 = .ok (.iload 4, 2) := by decide +kernel
theorem dX5_isMadeOfLinesAhead_24 : decode cX5_isMadeOfLinesAhead 24 = .ok (.iload_n 3, 1) := by decide +kernel
theorem dX5_isMadeOfLinesAhead_25 : decode cX5_isMadeOfLinesAhead 25 = .ok (.if_icmp .gt 24, 3) := by decide +kernel
theorem dX5_isMadeOfLinesAhead_28 : decode cX5_isMadeOfLinesAhead 28 = .ok (.aload_n 0, 1) := by decide +kernel
theorem dX5_isMadeOfLinesAhead_29 : decode cX5_isMadeOfLinesAhead 29 = .ok (.iload_n 2, 1) := by decide +kernel
theorem dX5_isMadeOfLinesAhead_30 : decode cX5_isMadeOfLinesAhead 30 = .ok (.iload 4, 2) := by decide +kernel
theorem dX5_isMadeOfLinesAhead_32 : decode cX5_isMadeOfLinesAhead 32 = .ok (.invokevirtual 77, 3) := by decide +kernel
theorem dX5_isMadeOfLinesAhead_35 : decode cX5_isMadeOfLinesAhead 35 = .ok (.iload_n 1, 1) := by decide +kernel
theorem dX5_isMadeOfLinesAhead_36 : decode cX5_isMadeOfLinesAhead 36 = .ok (.iload_n 2, 1) := by decide +kernel
theorem dX5_isMadeOfLinesAhead_37 : decode cX5_isMadeOfLinesAhead 37 = .ok (.iadd, 1) := by decide +kernel
theorem dX5_isMadeOfLinesAhead_38 : decode cX5_isMadeOfLinesAhead 38 = .ok (.if_icmp .lt 5, 3) := by decide +kernel
theorem dX5_isMadeOfLinesAhead_41 : decode cX5_isMadeOfLinesAhead 41 = .ok (.iconst 0, 1) := by decide +kernel
theorem dX5_isMadeOfLinesAhead_42 : decode cX5_isMadeOfLinesAhead 42 = .ok (.ireturn, 1) := by decide +kernel
theorem dX5_isMadeOfLinesAhead_43 : decode cX5_isMadeOfLinesAhead 43 = .ok (.iinc 4 1, 3) := by decide +kernel
theorem dX5_isMadeOfLinesAhead_46 : decode cX5_isMadeOfLinesAhead 46 = .ok (.goto (-24), 3) := by decide +kernel
theorem dX5_isMadeOfLinesAhead_49 : decode cX5_isMadeOfLinesAhead 49 = .ok (.iinc 2 1, 3) := by decide +kernel
theorem dX5_isMadeOfLinesAhead_52 : decode cX5_isMadeOfLinesAhead 52 = .ok (.goto (-50), 3) := by decide +kernel
theorem dX5_isMadeOfLinesAhead_55 : decode cX5_isMadeOfLinesAhead 55 = .ok (.iconst 1, 1) := by decide +kernel
theorem dX5_isMadeOfLinesAhead_56 : decode cX5_isMadeOfLinesAhead 56 = .ok (.ireturn, 1) := by decide +kernel
theorem dX5_shareOf_0 : decode cX5_shareOf 0 = .ok (.iload_n 1, 1) := by decide +kernel
theorem dX5_shareOf_1 : decode cX5_shareOf 1 = .ok (.iconst 1, 1) := by decide +kernel
theorem dX5_shareOf_2 : decode cX5_shareOf 2 = .ok (.if_icmp .ge 7, 3) := by decide +kernel
theorem dX5_shareOf_5 : decode cX5_shareOf 5 = .ok (.iconst 0, 1) := by decide +kernel
theorem dX5_shareOf_6 : decode cX5_shareOf 6 = .ok (.goto 9, 3) := by decide +kernel
theorem dX5_shareOf_9 : decode cX5_shareOf 9 = .ok (.iload_n 0, 1) := by decide +kernel
theorem dX5_shareOf_10 : decode cX5_shareOf 10 = .ok (.ldc 170, 2) := by decide +kernel
theorem dX5_shareOf_12 : decode cX5_shareOf 12 = .ok (.imul, 1) := by decide +kernel
theorem dX5_shareOf_13 : decode cX5_shareOf 13 = .ok (.iload_n 1, 1) := by decide +kernel
theorem dX5_shareOf_14 : decode cX5_shareOf 14 = .ok (.idiv, 1) := by decide +kernel
theorem dX5_shareOf_15 : decode cX5_shareOf 15 = .ok (.ireturn, 1) := by decide +kernel
theorem dX5_isShareAndSeed_0 : decode cX5_isShareAndSeed 0 = .ok (.iload_n 0, 1) := by decide +kernel
theorem dX5_isShareAndSeed_1 : decode cX5_isShareAndSeed 1 = .ok (.iconst 0, 1) := by decide +kernel
theorem dX5_isShareAndSeed_2 : decode cX5_isShareAndSeed 2 = .ok (.sipush 256, 3) := by decide +kernel
theorem dX5_isShareAndSeed_5 : decode cX5_isShareAndSeed 5 = .ok (.invokestatic 68, 3) := by decide +kernel
theorem dX5_isShareAndSeed_8 : decode cX5_isShareAndSeed 8 = .ok (.ifCond .eq 18, 3) := by decide +kernel
theorem dX5_isShareAndSeed_11 : decode cX5_isShareAndSeed 11 = .ok (.iload_n 1, 1) := by decide +kernel
theorem dX5_isShareAndSeed_12 : decode cX5_isShareAndSeed 12 = .ok (.iconst 1, 1) := by decide +kernel
theorem dX5_isShareAndSeed_13 : decode cX5_isShareAndSeed 13 = .ok (.sipush 255, 3) := by decide +kernel
theorem dX5_isShareAndSeed_16 : decode cX5_isShareAndSeed 16 = .ok (.invokestatic 68, 3) := by decide +kernel
theorem dX5_isShareAndSeed_19 : decode cX5_isShareAndSeed 19 = .ok (.ifCond .eq 7, 3) := by decide +kernel
theorem dX5_isShareAndSeed_22 : decode cX5_isShareAndSeed 22 = .ok (.iconst 1, 1) := by decide +kernel
theorem dX5_isShareAndSeed_23 : decode cX5_isShareAndSeed 23 = .ok (.goto 4, 3) := by decide +kernel
theorem dX5_isShareAndSeed_26 : decode cX5_isShareAndSeed 26 = .ok (.iconst 0, 1) := by decide +kernel
theorem dX5_isShareAndSeed_27 : decode cX5_isShareAndSeed 27 = .ok (.ireturn, 1) := by decide +kernel
theorem dX5_isWithin_0 : decode cX5_isWithin 0 = .ok (.iload_n 0, 1) := by decide +kernel
theorem dX5_isWithin_1 : decode cX5_isWithin 1 = .ok (.iload_n 1, 1) := by decide +kernel
theorem dX5_isWithin_2 : decode cX5_isWithin 2 = .ok (.if_icmp .lt 12, 3) := by decide +kernel
theorem dX5_isWithin_5 : decode cX5_isWithin 5 = .ok (.iload_n 0, 1) := by decide +kernel
theorem dX5_isWithin_6 : decode cX5_isWithin 6 = .ok (.iload_n 2, 1) := by decide +kernel
theorem dX5_isWithin_7 : decode cX5_isWithin 7 = .ok (.if_icmp .gt 7, 3) := by decide +kernel
theorem dX5_isWithin_10 : decode cX5_isWithin 10 = .ok (.iconst 1, 1) := by decide +kernel
theorem dX5_isWithin_11 : decode cX5_isWithin 11 = .ok (.goto 4, 3) := by decide +kernel
theorem dX5_isWithin_14 : decode cX5_isWithin 14 = .ok (.iconst 0, 1) := by decide +kernel
theorem dX5_isWithin_15 : decode cX5_isWithin 15 = .ok (.ireturn, 1) := by decide +kernel
theorem dX5_numbersOfKind_0 : decode cX5_numbersOfKind 0 = .ok (.getstatic 213, 3) := by decide +kernel
theorem dX5_numbersOfKind_3 : decode cX5_numbersOfKind 3 = .ok (.iload_n 0, 1) := by decide +kernel
theorem dX5_numbersOfKind_4 : decode cX5_numbersOfKind 4 = .ok (.invokestatic 217, 3) := by decide +kernel
theorem dX5_numbersOfKind_7 : decode cX5_numbersOfKind 7 = .ok (.ireturn, 1) := by decide +kernel
theorem dX5_linesOfKind_0 : decode cX5_linesOfKind 0 = .ok (.getstatic 221, 3) := by decide +kernel
theorem dX5_linesOfKind_3 : decode cX5_linesOfKind 3 = .ok (.iload_n 0, 1) := by decide +kernel
theorem dX5_linesOfKind_4 : decode cX5_linesOfKind 4 = .ok (.invokestatic 217, 3) := by decide +kernel
theorem dX5_linesOfKind_7 : decode cX5_linesOfKind 7 = .ok (.ireturn, 1) := by decide +kernel
theorem dX5_elementAt_0 : decode cX5_elementAt 0 = .ok (.iload_n 1, 1) := by decide +kernel
theorem dX5_elementAt_1 : decode cX5_elementAt 1 = .ok (.ifCond .lt 9, 3) := by decide +kernel
theorem dX5_elementAt_4 : decode cX5_elementAt 4 = .ok (.iload_n 1, 1) := by decide +kernel
theorem dX5_elementAt_5 : decode cX5_elementAt 5 = .ok (.aload_n 0, 1) := by decide +kernel
theorem dX5_elementAt_6 : decode cX5_elementAt 6 = .ok (.arraylength, 1) := by decide +kernel
theorem dX5_elementAt_7 : decode cX5_elementAt 7 = .ok (.if_icmp .lt 7, 3) := by decide +kernel
theorem dX5_elementAt_10 : decode cX5_elementAt 10 = .ok (.iconst 0, 1) := by decide +kernel
theorem dX5_elementAt_11 : decode cX5_elementAt 11 = .ok (.goto 6, 3) := by decide +kernel
theorem dX5_elementAt_14 : decode cX5_elementAt 14 = .ok (.aload_n 0, 1) := by decide +kernel
theorem dX5_elementAt_15 : decode cX5_elementAt 15 = .ok (.iload_n 1, 1) := by decide +kernel
theorem dX5_elementAt_16 : decode cX5_elementAt 16 = .ok (.iaload, 1) := by decide +kernel
theorem dX5_elementAt_17 : decode cX5_elementAt 17 = .ok (.ireturn, 1) := by decide +kernel
theorem dX5_setElement_0 : decode cX5_setElement 0 = .ok (.iload_n 1, 1) := by decide +kernel
theorem dX5_setElement_1 : decode cX5_setElement 1 = .ok (.ifCond .lt 13, 3) := by decide +kernel
theorem dX5_setElement_4 : decode cX5_setElement 4 = .ok (.iload_n 1, 1) := by decide +kernel
theorem dX5_setElement_5 : decode cX5_setElement 5 = .ok (.aload_n 0, 1) := by decide +kernel
theorem dX5_setElement_6 : decode cX5_setElement 6 = .ok (.arraylength, 1) := by decide +kernel
theorem dX5_setElement_7 : decode cX5_setElement 7 = .ok (.if_icmp .ge 7, 3) := by decide +kernel
theorem dX5_setElement_10 : decode cX5_setElement 10 = .ok (.aload_n 0, 1) := by decide +kernel
theorem dX5_setElement_11 : decode cX5_setElement 11 = .ok (.iload_n 1, 1) := by decide +kernel
theorem dX5_setElement_12 : decode cX5_setElement 12 = .ok (.iload_n 2, 1) := by decide +kernel
theorem dX5_setElement_13 : decode cX5_setElement 13 = .ok (.iastore, 1) := by decide +kernel
theorem dX5_setElement_14 : decode cX5_setElement 14 = .ok (.return_, 1) := by decide +kernel
end
section
theorem dX6_init_0 : decode cX6_init 0 = .ok (.aload_n 0, 1) := by decide +kernel
theorem dX6_init_1 : decode cX6_init 1 = .ok (.invokespecial 1, 3) := by decide +kernel
theorem dX6_init_4 : decode cX6_init 4 = .ok (.aload_n 0, 1) := by decide +kernel
theorem dX6_init_5 : decode cX6_init 5 = .ok (.bipush 66, 2) := by decide +kernel
theorem dX6_init_7 : decode cX6_init 7 = .ok (.newarray .int, 2) := by decide +kernel
theorem dX6_init_9 : decode cX6_init 9 = .ok (.putfield 7, 3) := by decide +kernel
theorem dX6_init_12 : decode cX6_init 12 = .ok (.aload_n 0, 1) := by decide +kernel
theorem dX6_init_13 : decode cX6_init 13 = .ok (.bipush 66, 2) := by decide +kernel
theorem dX6_init_15 : decode cX6_init 15 = .ok (.newarray .int, 2) := by decide +kernel
theorem dX6_init_17 : decode cX6_init 17 = .ok (.putfield 13, 3) := by decide +kernel
theorem dX6_init_20 : decode cX6_init 20 = .ok (.aload_n 0, 1) := by decide +kernel
theorem dX6_init_21 : decode cX6_init 21 = .ok (.sipush 264, 3) := by decide +kernel
theorem dX6_init_24 : decode cX6_init 24 = .ok (.newarray .int, 2) := by decide +kernel
theorem dX6_init_26 : decode cX6_init 26 = .ok (.putfield 16, 3) := by decide +kernel
theorem dX6_init_29 : decode cX6_init 29 = .ok (.aload_n 0, 1) := by decide +kernel
theorem dX6_init_30 : decode cX6_init 30 = .ok (.bipush 66, 2) := by decide +kernel
theorem dX6_init_32 : decode cX6_init 32 = .ok (.newarray .int, 2) := by decide +kernel
theorem dX6_init_34 : decode cX6_init 34 = .ok (.putfield 19, 3) := by decide +kernel
theorem dX6_init_37 : decode cX6_init 37 = .ok (.aload_n 0, 1) := by decide +kernel
theorem dX6_init_38 : decode cX6_init 38 = .ok (.bipush 7, 2) := by decide +kernel
theorem dX6_init_40 : decode cX6_init 40 = .ok (.newarray .long, 2) := by decide +kernel
theorem dX6_init_42 : decode cX6_init 42 = .ok (.putfield 22, 3) := by decide +kernel
theorem dX6_init_45 : decode cX6_init 45 = .ok (.aload_n 0, 1) := by decide +kernel
theorem dX6_init_46 : decode cX6_init 46 = .ok (.sipush 16000, 3) := by decide +kernel
theorem dX6_init_49 : decode cX6_init 49 = .ok (.newarray .int, 2) := by decide +kernel
theorem dX6_init_51 : decode cX6_init 51 = .ok (.putfield 26, 3) := by decide +kernel
theorem dX6_init_54 : decode cX6_init 54 = .ok (.aload_n 0, 1) := by decide +kernel
theorem dX6_init_55 : decode cX6_init 55 = .ok (.bipush 16, 2) := by decide +kernel
theorem dX6_init_57 : decode cX6_init 57 = .ok (.newarray .int, 2) := by decide +kernel
theorem dX6_init_59 : decode cX6_init 59 = .ok (.putfield 29, 3) := by decide +kernel
theorem dX6_init_62 : decode cX6_init 62 = .ok (.aload_n 0, 1) := by decide +kernel
theorem dX6_init_63 : decode cX6_init 63 = .ok (.bipush 16, 2) := by decide +kernel
theorem dX6_init_65 : decode cX6_init 65 = .ok (.newarray .int, 2) := by decide +kernel
theorem dX6_init_67 : decode cX6_init 67 = .ok (.putfield 32, 3) := by decide +kernel
theorem dX6_init_70 : decode cX6_init 70 = .ok (.aload_n 0, 1) := by decide +kernel
theorem dX6_init_71 : decode cX6_init 71 = .ok (.bipush 80, 2) := by decide +kernel
theorem dX6_init_73 : decode cX6_init 73 = .ok (.newarray .int, 2) := by decide +kernel
theorem dX6_init_75 : decode cX6_init 75 = .ok (.putfield 35, 3) := by decide +kernel
theorem dX6_init_78 : decode cX6_init 78 = .ok (.aload_n 0, 1) := by decide +kernel
theorem dX6_init_79 : decode cX6_init 79 = .ok (.bipush 80, 2) := by decide +kernel
theorem dX6_init_81 : decode cX6_init 81 = .ok (.newarray .int, 2) := by decide +kernel
theorem dX6_init_83 : decode cX6_init 83 = .ok (.putfield 38, 3) := by decide +kernel
theorem dX6_init_86 : decode cX6_init 86 = .ok (.aload_n 0, 1) := by decide +kernel
theorem dX6_init_87 : decode cX6_init 87 = .ok (.bipush 16, 2) := by decide +kernel
theorem dX6_init_89 : decode cX6_init 89 = .ok (.newarray .int, 2) := by decide +kernel
theorem dX6_init_91 : decode cX6_init 91 = .ok (.putfield 41, 3) := by decide +kernel
theorem dX6_init_94 : decode cX6_init 94 = .ok (.aload_n 0, 1) := by decide +kernel
theorem dX6_init_95 : decode cX6_init 95 = .ok (.bipush 16, 2) := by decide +kernel
theorem dX6_init_97 : decode cX6_init 97 = .ok (.newarray .int, 2) := by decide +kernel
theorem dX6_init_99 : decode cX6_init 99 = .ok (.putfield 44, 3) := by decide +kernel
theorem dX6_init_102 : decode cX6_init 102 = .ok (.aload_n 0, 1) := by decide +kernel
theorem dX6_init_103 : decode cX6_init 103 = .ok (.getfield 7, 3) := by decide +kernel
theorem dX6_init_106 : decode cX6_init 106 = .ok (.iconst 1, 1) := by decide +kernel
theorem dX6_init_107 : decode cX6_init 107 = .ok (.sipush 256, 3) := by decide +kernel
theorem dX6_init_110 : decode cX6_init 110 = .ok (.iastore, 1) := by decide +kernel
theorem dX6_init_111 : decode cX6_init 111 = .ok (.aload_n 0, 1) := by decide +kernel
theorem dX6_init_112 : decode cX6_init 112 = .ok (.getfield 22, 3) := by decide +kernel
theorem dX6_init_115 : decode cX6_init 115 = .ok (.iconst 0, 1) := by decide +kernel
theorem dX6_init_116 : decode cX6_init 116 = .ok (.ldc2_w 47, 3) := by decide +kernel
theorem dX6_init_119 : decode cX6_init 119 = .ok (.lastore, 1) := by decide +kernel
theorem dX6_init_120 : decode cX6_init 120 = .ok (.aload_n 0, 1) := by decide +kernel
theorem dX6_init_121 : decode cX6_init 121 = .ok (.getfield 22, 3) := by decide +kernel
theorem dX6_init_124 : decode cX6_init 124 = .ok (.iconst 1, 1) := by decide +kernel
theorem dX6_init_125 : decode cX6_init 125 = .ok (.ldc2_w 49, 3) := by decide +kernel
theorem dX6_init_128 : decode cX6_init 128 = .ok (.lastore, 1) := by decide +kernel
theorem dX6_init_129 : decode cX6_init 129 = .ok (.aload_n 0, 1) := by decide +kernel
theorem dX6_init_130 : decode cX6_init 130 = .ok (.getfield 22, 3) := by decide +kernel
theorem dX6_init_133 : decode cX6_init 133 = .ok (.iconst 2, 1) := by decide +kernel
theorem dX6_init_134 : decode cX6_init 134 = .ok (.ldc2_w 51, 3) := by decide +kernel
theorem dX6_init_137 : decode cX6_init 137 = .ok (.lastore, 1) := by decide +kernel
theorem dX6_init_138 : decode cX6_init 138 = .ok (.aload_n 0, 1) := by decide +kernel
theorem dX6_init_139 : decode cX6_init 139 = .ok (.getfield 22, 3) := by decide +kernel
theorem dX6_init_142 : decode cX6_init 142 = .ok (.iconst 3, 1) := by decide +kernel
theorem dX6_init_143 : decode cX6_init 143 = .ok (.ldc2_w 53, 3) := by decide +kernel
theorem dX6_init_146 : decode cX6_init 146 = .ok (.lastore, 1) := by decide +kernel
theorem dX6_init_147 : decode cX6_init 147 = .ok (.aload_n 0, 1) := by decide +kernel
theorem dX6_init_148 : decode cX6_init 148 = .ok (.getfield 22, 3) := by decide +kernel
theorem dX6_init_151 : decode cX6_init 151 = .ok (.iconst 4, 1) := by decide +kernel
theorem dX6_init_152 : decode cX6_init 152 = .ok (.ldc2_w 55, 3) := by decide +kernel
theorem dX6_init_155 : decode cX6_init 155 = .ok (.lastore, 1) := by decide +kernel
theorem dX6_init_156 : decode cX6_init 156 = .ok (.aload_n 0, 1) := by decide +kernel
theorem dX6_init_157 : decode cX6_init 157 = .ok (.getfield 22, 3) := by decide +kernel
theorem dX6_init_160 : decode cX6_init 160 = .ok (.iconst 5, 1) := by decide +kernel
theorem dX6_init_161 : decode cX6_init 161 = .ok (.ldc2_w 57, 3) := by decide +kernel
theorem dX6_init_164 : decode cX6_init 164 = .ok (.lastore, 1) := by decide +kernel
theorem dX6_init_165 : decode cX6_init 165 = .ok (.aload_n 0, 1) := by decide +kernel
theorem dX6_init_166 : decode cX6_init 166 = .ok (.getfield 22, 3) := by decide +kernel
theorem dX6_init_169 : decode cX6_init 169 = .ok (.bipush 6, 2) := by decide +kernel
theorem dX6_init_171 : decode cX6_init 171 = .ok (.ldc2_w 59, 3) := by decide +kernel
theorem dX6_init_174 : decode cX6_init 174 = .ok (.lastore, 1) := by decide +kernel
theorem dX6_init_175 : decode cX6_init 175 = .ok (.return_, 1) := by decide +kernel
theorem dX6_in_0 : decode cX6_in 0 = .ok (.lload_n 0, 1) := by decide +kernel
theorem dX6_in_1 : decode cX6_in 1 = .ok (.lload_n 2, 1) := by decide +kernel
theorem dX6_in_2 : decode cX6_in 2 = .ok (.lcmp, 1) := by decide +kernel
theorem dX6_in_3 : decode cX6_in 3 = .ok (.ifCond .lt 14, 3) := by decide +kernel
theorem dX6_in_6 : decode cX6_in 6 = .ok (.lload_n 0, 1) := by decide +kernel
theorem dX6_in_7 : decode cX6_in 7 = .ok (.lload 4, 2) := by decide +kernel
theorem dX6_in_9 : decode cX6_in 9 = .ok (.lcmp, 1) := by decide +kernel
theorem dX6_in_10 : decode cX6_in 10 = .ok (.ifCond .gt 7, 3) := by decide +kernel
theorem dX6_in_13 : decode cX6_in 13 = .ok (.iconst 1, 1) := by decide +kernel
theorem dX6_in_14 : decode cX6_in 14 = .ok (.goto 4, 3) := by decide +kernel
theorem dX6_in_17 : decode cX6_in 17 = .ok (.iconst 0, 1) := by decide +kernel
theorem dX6_in_18 : decode cX6_in 18 = .ok (.ireturn, 1) := by decide +kernel
theorem dX6_remember_0 : decode cX6_remember 0 = .ok (.iconst 0, 1) := by decide +kernel
theorem dX6_remember_1 : decode cX6_remember 1 = .ok (.istore_n 1, 1) := by decide +kernel
theorem dX6_remember_2 : decode cX6_remember 2 = .ok (.iload_n 1, 1) := by decide +kernel
theorem dX6_remember_3 : decode cX6_remember 3 = .ok (.bipush 66, 2) := by decide +kernel
theorem dX6_remember_5 : decode cX6_remember 5 = .ok (.if_icmp .ge 21, 3) := by decide +kernel
theorem dX6_remember_8 : decode cX6_remember 8 = .ok (.aload_n 0, 1) := by decide +kernel
theorem dX6_remember_9 : decode cX6_remember 9 = .ok (.getfield 13, 3) := by decide +kernel
theorem dX6_remember_12 : decode cX6_remember 12 = .ok (.iload_n 1, 1) := by decide +kernel
theorem dX6_remember_13 : decode cX6_remember 13 = .ok (.aload_n 0, 1) := by decide +kernel
theorem dX6_remember_14 : decode cX6_remember 14 = .ok (.getfield 7, 3) := by decide +kernel
theorem dX6_remember_17 : decode cX6_remember 17 = .ok (.iload_n 1, 1) := by decide +kernel
theorem dX6_remember_18 : decode cX6_remember 18 = .ok (.iaload, 1) := by decide +kernel
theorem dX6_remember_19 : decode cX6_remember 19 = .ok (.iastore, 1) := by decide +kernel
theorem dX6_remember_20 : decode cX6_remember 20 = .ok (.iinc 1 1, 3) := by decide +kernel
theorem dX6_remember_23 : decode cX6_remember 23 = .ok (.goto (-21), 3) := by decide +kernel
theorem dX6_remember_26 : decode cX6_remember 26 = .ok (.return_, 1) := by decide +kernel
theorem dX6_acted_0 : decode cX6_acted 0 = .ok (.aload_n 0, 1) := by decide +kernel
theorem dX6_acted_1 : decode cX6_acted 1 = .ok (.getfield 61, 3) := by decide +kernel
theorem dX6_acted_4 : decode cX6_acted 4 = .ok (.iconst 4, 1) := by decide +kernel
theorem dX6_acted_5 : decode cX6_acted 5 = .ok (.if_icmp .ne 43, 3) := by decide +kernel
theorem dX6_acted_8 : decode cX6_acted 8 = .ok (.iconst 0, 1) := by decide +kernel
theorem dX6_acted_9 : decode cX6_acted 9 = .ok (.istore_n 2, 1) := by decide +kernel
theorem dX6_acted_10 : decode cX6_acted 10 = .ok (.iload_n 2, 1) := by decide +kernel
theorem dX6_acted_11 : decode cX6_acted 11 = .ok (.sipush 198, 3) := by decide +kernel
theorem dX6_acted_14 : decode cX6_acted 14 = .ok (.if_icmp .ge 24, 3) := by decide +kernel
theorem dX6_acted_17 : decode cX6_acted 17 = .ok (.aload_n 0, 1) := by decide +kernel
theorem dX6_acted_18 : decode cX6_acted 18 = .ok (.getfield 16, 3) := by decide +kernel
theorem dX6_acted_21 : decode cX6_acted 21 = .ok (.iload_n 2, 1) := by decide +kernel
theorem dX6_acted_22 : decode cX6_acted 22 = .ok (.aload_n 0, 1) := by decide +kernel
theorem dX6_acted_23 : decode cX6_acted 23 = .ok (.getfield 16, 3) := by decide +kernel
theorem dX6_acted_26 : decode cX6_acted 26 = .ok (.iload_n 2, 1) := by decide +kernel
theorem dX6_acted_27 : decode cX6_acted 27 = .ok (.bipush 66, 2) := by decide +kernel
theorem dX6_acted_29 : decode cX6_acted 29 = .ok (.iadd, 1) := by decide +kernel
theorem dX6_acted_30 : decode cX6_acted 30 = .ok (.iaload, 1) := by decide +kernel
theorem dX6_acted_31 : decode cX6_acted 31 = .ok (.iastore, 1) := by decide +kernel
theorem dX6_acted_32 : decode cX6_acted 32 = .ok (.iinc 2 1, 3) := by decide +kernel
theorem dX6_acted_35 : decode cX6_acted 35 = .ok (.goto (-25), 3) := by decide +kernel
theorem dX6_acted_38 : decode cX6_acted 38 = .ok (.aload_n 0, 1) := by decide +kernel
theorem dX6_acted_39 : decode cX6_acted 39 = .ok (.dup, 1) := by decide +kernel
theorem dX6_acted_40 : decode cX6_acted 40 = .ok (.getfield 61, 3) := by decide +kernel
theorem dX6_acted_43 : decode cX6_acted 43 = .ok (.iconst 1, 1) := by decide +kernel
theorem dX6_acted_44 : decode cX6_acted 44 = .ok (.isub, 1) := by decide +kernel
theorem dX6_acted_45 : decode cX6_acted 45 = .ok (.putfield 61, 3) := by decide +kernel
theorem dX6_acted_48 : decode cX6_acted 48 = .ok (.iconst 0, 1) := by decide +kernel
theorem dX6_acted_49 : decode cX6_acted 49 = .ok (.istore_n 2, 1) := by decide +kernel
theorem dX6_acted_50 : decode cX6_acted 50 = .ok (.iload_n 2, 1) := by decide +kernel
theorem dX6_acted_51 : decode cX6_acted 51 = .ok (.bipush 66, 2) := by decide +kernel
theorem dX6_acted_53 : decode cX6_acted 53 = .ok (.if_icmp .ge 29, 3) := by decide +kernel
theorem dX6_acted_56 : decode cX6_acted 56 = .ok (.aload_n 0, 1) := by decide +kernel
theorem dX6_acted_57 : decode cX6_acted 57 = .ok (.getfield 16, 3) := by decide +kernel
theorem dX6_acted_60 : decode cX6_acted 60 = .ok (.bipush 66, 2) := by decide +kernel
theorem dX6_acted_62 : decode cX6_acted 62 = .ok (.aload_n 0, 1) := by decide +kernel
theorem dX6_acted_63 : decode cX6_acted 63 = .ok (.getfield 61, 3) := by decide +kernel
theorem dX6_acted_66 : decode cX6_acted 66 = .ok (.imul, 1) := by decide +kernel
theorem dX6_acted_67 : decode cX6_acted 67 = .ok (.iload_n 2, 1) := by decide +kernel
theorem dX6_acted_68 : decode cX6_acted 68 = .ok (.iadd, 1) := by decide +kernel
theorem dX6_acted_69 : decode cX6_acted 69 = .ok (.aload_n 0, 1) := by decide +kernel
theorem dX6_acted_70 : decode cX6_acted 70 = .ok (.getfield 13, 3) := by decide +kernel
theorem dX6_acted_73 : decode cX6_acted 73 = .ok (.iload_n 2, 1) := by decide +kernel
theorem dX6_acted_74 : decode cX6_acted 74 = .ok (.iaload, 1) := by decide +kernel
theorem dX6_acted_75 : decode cX6_acted 75 = .ok (.iastore, 1) := by decide +kernel
theorem dX6_acted_76 : decode cX6_acted 76 = .ok (.iinc 2 1, 3) := by decide +kernel
theorem dX6_acted_79 : decode cX6_acted 79 = .ok (.goto (-29), 3) := by decide +kernel
theorem dX6_acted_82 : decode cX6_acted 82 = .ok (.aload_n 0, 1) := by decide +kernel
theorem dX6_acted_83 : decode cX6_acted 83 = .ok (.dup, 1) := by decide +kernel
theorem dX6_acted_84 : decode cX6_acted 84 = .ok (.getfield 61, 3) := by decide +kernel
theorem dX6_acted_87 : decode cX6_acted 87 = .ok (.iconst 1, 1) := by decide +kernel
theorem dX6_acted_88 : decode cX6_acted 88 = .ok (.iadd, 1) := by decide +kernel
theorem dX6_acted_89 : decode cX6_acted 89 = .ok (.putfield 61, 3) := by decide +kernel
theorem dX6_acted_92 : decode cX6_acted 92 = .ok (.iload_n 1, 1) := by decide +kernel
theorem dX6_acted_93 : decode cX6_acted 93 = .ok (.ireturn, 1) := by decide +kernel
theorem dX6_isLine_0 : decode cX6_isLine 0 = .ok (.iload_n 1, 1) := by decide +kernel
theorem dX6_isLine_1 : decode cX6_isLine 1 = .ok (.i2l, 1) := by decide +kernel
theorem dX6_isLine_2 : decode cX6_isLine 2 = .ok (.lconst 0, 1) := by decide +kernel
theorem dX6_isLine_3 : decode cX6_isLine 3 = .ok (.aload_n 0, 1) := by decide +kernel
theorem dX6_isLine_4 : decode cX6_isLine 4 = .ok (.getfield 7, 3) := by decide +kernel
theorem dX6_isLine_7 : decode cX6_isLine 7 = .ok (.iconst 0, 1) := by decide +kernel
theorem dX6_isLine_8 : decode cX6_isLine 8 = .ok (.iaload, 1) := by decide +kernel
theorem dX6_isLine_9 : decode cX6_isLine 9 = .ok (.i2l, 1) := by decide +kernel
theorem dX6_isLine_10 : decode cX6_isLine 10 = .ok (.lconst 1, 1) := by decide +kernel
theorem dX6_isLine_11 : decode cX6_isLine 11 = .ok (.lsub, 1) := by decide +kernel
theorem dX6_isLine_12 : decode cX6_isLine 12 = .ok (.invokestatic 65, 3) := by decide +kernel
theorem dX6_isLine_15 : decode cX6_isLine 15 = .ok (.ireturn, 1) := by decide +kernel
theorem dX6_of_0 : decode cX6_of 0 = .ok (.aload_n 0, 1) := by decide +kernel
theorem dX6_of_1 : decode cX6_of 1 = .ok (.getfield 7, 3) := by decide +kernel
theorem dX6_of_4 : decode cX6_of 4 = .ok (.iconst 2, 1) := by decide +kernel
theorem dX6_of_5 : decode cX6_of 5 = .ok (.iconst 4, 1) := by decide +kernel
theorem dX6_of_6 : decode cX6_of 6 = .ok (.iload_n 1, 1) := by decide +kernel
theorem dX6_of_7 : decode cX6_of 7 = .ok (.imul, 1) := by decide +kernel
theorem dX6_of_8 : decode cX6_of 8 = .ok (.iadd, 1) := by decide +kernel
theorem dX6_of_9 : decode cX6_of 9 = .ok (.iload_n 2, 1) := by decide +kernel
theorem dX6_of_10 : decode cX6_of 10 = .ok (.iadd, 1) := by decide +kernel
theorem dX6_of_11 : decode cX6_of 11 = .ok (.iaload, 1) := by decide +kernel
theorem dX6_of_12 : decode cX6_of 12 = .ok (.ireturn, 1) := by decide +kernel
theorem dX6_linesBy_0 : decode cX6_linesBy 0 = .ok (.iload_n 0, 1) := by decide +kernel
theorem dX6_linesBy_1 : decode cX6_linesBy 1 = .ok (.ifCond .ne 7, 3) := by decide +kernel
theorem dX6_linesBy_4 : decode cX6_linesBy 4 = .ok (.iconst 0, 1) := by decide +kernel
theorem dX6_linesBy_5 : decode cX6_linesBy 5 = .ok (.goto 22, 3) := by decide +kernel
theorem dX6_linesBy_8 : decode cX6_linesBy 8 = .ok (.iload_n 0, 1) := by decide +kernel
theorem dX6_linesBy_9 : decode cX6_linesBy 9 = .ok (.iconst 4, 1) := by decide +kernel
theorem dX6_linesBy_10 : decode cX6_linesBy 10 = .ok (.if_icmp .ne 7, 3) := by decide +kernel
theorem dX6_linesBy_13 : decode cX6_linesBy 13 = .ok (.iconst 3, 1) := by decide +kernel
theorem dX6_linesBy_14 : decode cX6_linesBy 14 = .ok (.goto 13, 3) := by decide +kernel
theorem dX6_linesBy_17 : decode cX6_linesBy 17 = .ok (.iload_n 0, 1) := by decide +kernel
theorem dX6_linesBy_18 : decode cX6_linesBy 18 = .ok (.iconst 4, 1) := by decide +kernel
theorem dX6_linesBy_19 : decode cX6_linesBy 19 = .ok (.if_icmp .ge 7, 3) := by decide +kernel
theorem dX6_linesBy_22 : decode cX6_linesBy 22 = .ok (.iconst 2, 1) := by decide +kernel
theorem dX6_linesBy_23 : decode cX6_linesBy 23 = .ok (.goto 4, 3) := by decide +kernel
theorem dX6_linesBy_26 : decode cX6_linesBy 26 = .ok (.iconst 1, 1) := by decide +kernel
theorem dX6_linesBy_27 : decode cX6_linesBy 27 = .ok (.ireturn, 1) := by decide +kernel
theorem dX6_puts_0 : decode cX6_puts 0 = .ok (.iconst 2, 1) := by decide +kernel
theorem dX6_puts_1 : decode cX6_puts 1 = .ok (.iconst 4, 1) := by decide +kernel
theorem dX6_puts_2 : decode cX6_puts 2 = .ok (.aload_n 0, 1) := by decide +kernel
theorem dX6_puts_3 : decode cX6_puts 3 = .ok (.getfield 7, 3) := by decide +kernel
theorem dX6_puts_6 : decode cX6_puts 6 = .ok (.iconst 0, 1) := by decide +kernel
theorem dX6_puts_7 : decode cX6_puts 7 = .ok (.iaload, 1) := by decide +kernel
theorem dX6_puts_8 : decode cX6_puts 8 = .ok (.imul, 1) := by decide +kernel
theorem dX6_puts_9 : decode cX6_puts 9 = .ok (.iadd, 1) := by decide +kernel
theorem dX6_puts_10 : decode cX6_puts 10 = .ok (.istore 5, 2) := by decide +kernel
theorem dX6_puts_12 : decode cX6_puts 12 = .ok (.aload_n 0, 1) := by decide +kernel
theorem dX6_puts_13 : decode cX6_puts 13 = .ok (.getfield 7, 3) := by decide +kernel
theorem dX6_puts_16 : decode cX6_puts 16 = .ok (.iload 5, 2) := by decide +kernel
theorem dX6_puts_18 : decode cX6_puts 18 = .ok (.iload_n 1, 1) := by decide +kernel
theorem dX6_puts_19 : decode cX6_puts 19 = .ok (.iastore, 1) := by decide +kernel
theorem dX6_puts_20 : decode cX6_puts 20 = .ok (.aload_n 0, 1) := by decide +kernel
theorem dX6_puts_21 : decode cX6_puts 21 = .ok (.getfield 7, 3) := by decide +kernel
theorem dX6_puts_24 : decode cX6_puts 24 = .ok (.iload 5, 2) := by decide +kernel
theorem dX6_puts_26 : decode cX6_puts 26 = .ok (.iconst 1, 1) := by decide +kernel
theorem dX6_puts_27 : decode cX6_puts 27 = .ok (.iadd, 1) := by decide +kernel
theorem dX6_puts_28 : decode cX6_puts 28 = .ok (.iload_n 2, 1) := by decide +kernel
theorem dX6_puts_29 : decode cX6_puts 29 = .ok (.iastore, 1) := by decide +kernel
theorem dX6_puts_30 : decode cX6_puts 30 = .ok (.aload_n 0, 1) := by decide +kernel
theorem dX6_puts_31 : decode cX6_puts 31 = .ok (.getfield 7, 3) := by decide +kernel
theorem dX6_puts_34 : decode cX6_puts 34 = .ok (.iload 5, 2) := by decide +kernel
theorem dX6_puts_36 : decode cX6_puts 36 = .ok (.iconst 2, 1) := by decide +kernel
theorem dX6_puts_37 : decode cX6_puts 37 = .ok (.iadd, 1) := by decide +kernel
theorem dX6_puts_38 : decode cX6_puts 38 = .ok (.iload_n 3, 1) := by decide +kernel
theorem dX6_puts_39 : decode cX6_puts 39 = .ok (.iastore, 1) := by decide +kernel
theorem dX6_puts_40 : decode cX6_puts 40 = .ok (.aload_n 0, 1) := by decide +kernel
theorem dX6_puts_41 : decode cX6_puts 41 = .ok (.getfield 7, 3) := by decide +kernel
theorem dX6_puts_44 : decode cX6_puts 44 = .ok (.iload 5, 2) := by decide +kernel
theorem dX6_puts_46 : decode cX6_puts 46 = .ok (.iconst 3, 1) := by decide +kernel
theorem dX6_puts_47 : decode cX6_puts 47 = .ok (.iadd, 1) := by decide +kernel
theorem dX6_puts_48 : decode cX6_puts 48 = .ok (.iload 4, 2) := by decide +kernel
theorem dX6_puts_50 : decode cX6_puts 50 = .ok (.iastore, 1) := by decide +kernel
theorem dX6_puts_51 : decode cX6_puts 51 = .ok (.aload_n 0, 1) := by decide +kernel
theorem dX6_puts_52 : decode cX6_puts 52 = .ok (.getfield 7, 3) := by decide +kernel
theorem dX6_puts_55 : decode cX6_puts 55 = .ok (.iconst 0, 1) := by decide +kernel
theorem dX6_puts_56 : decode cX6_puts 56 = .ok (.dup2, 1) := by decide +kernel
theorem dX6_puts_57 : decode cX6_puts 57 = .ok (.iaload, 1) := by decide +kernel
theorem dX6_puts_58 : decode cX6_puts 58 = .ok (.iconst 1, 1) := by decide +kernel
theorem dX6_puts_59 : decode cX6_puts 59 = .ok (.iadd, 1) := by decide +kernel
theorem dX6_puts_60 : decode cX6_puts 60 = .ok (.iastore, 1) := by decide +kernel
theorem dX6_puts_61 : decode cX6_puts 61 = .ok (.return_, 1) := by decide +kernel
theorem dX6_adds_0 : decode cX6_adds 0 = .ok (.aload_n 0, 1) := by decide +kernel
theorem dX6_adds_1 : decode cX6_adds 1 = .ok (.getfield 7, 3) := by decide +kernel
theorem dX6_adds_4 : decode cX6_adds 4 = .ok (.iconst 0, 1) := by decide +kernel
theorem dX6_adds_5 : decode cX6_adds 5 = .ok (.iaload, 1) := by decide +kernel
theorem dX6_adds_6 : decode cX6_adds 6 = .ok (.bipush 16, 2) := by decide +kernel
theorem dX6_adds_8 : decode cX6_adds 8 = .ok (.if_icmp .ne 6, 3) := by decide +kernel
theorem dX6_adds_11 : decode cX6_adds 11 = .ok (.ldc 69, 2) := by decide +kernel
theorem dX6_adds_13 : decode cX6_adds 13 = .ok (.ireturn, 1) := by decide +kernel
theorem dX6_adds_14 : decode cX6_adds 14 = .ok (.aload_n 0, 1) := by decide +kernel
theorem dX6_adds_15 : decode cX6_adds 15 = .ok (.invokevirtual 70, 3) := by decide +kernel
theorem dX6_adds_18 : decode cX6_adds 18 = .ok (.aload_n 0, 1) := by decide +kernel
theorem dX6_adds_19 : decode cX6_adds 19 = .ok (.iload_n 1, 1) := by decide +kernel
theorem dX6_adds_20 : decode cX6_adds 20 = .ok (.iload_n 2, 1) := by decide +kernel
theorem dX6_adds_21 : decode cX6_adds 21 = .ok (.iload_n 3, 1) := by decide +kernel
theorem dX6_adds_22 : decode cX6_adds 22 = .ok (.iload 4, 2) := by decide +kernel
theorem dX6_adds_24 : decode cX6_adds 24 = .ok (.invokevirtual 73, 3) := by decide +kernel
theorem dX6_adds_27 : decode cX6_adds 27 = .ok (.aload_n 0, 1) := by decide +kernel
theorem dX6_adds_28 : decode cX6_adds 28 = .ok (.aload_n 0, 1) := by decide +kernel
theorem dX6_adds_29 : decode cX6_adds 29 = .ok (.getfield 7, 3) := by decide +kernel
theorem dX6_adds_32 : decode cX6_adds 32 = .ok (.iconst 0, 1) := by decide +kernel
theorem dX6_adds_33 : decode cX6_adds 33 = .ok (.iaload, 1) := by decide +kernel
theorem dX6_adds_34 : decode cX6_adds 34 = .ok (.iconst 1, 1) := by decide +kernel
theorem dX6_adds_35 : decode cX6_adds 35 = .ok (.isub, 1) := by decide +kernel
theorem dX6_adds_36 : decode cX6_adds 36 = .ok (.invokevirtual 77, 3) := by decide +kernel
theorem dX6_adds_39 : decode cX6_adds 39 = .ok (.ireturn, 1) := by decide +kernel
theorem dX6_source_0 : decode cX6_source 0 = .ok (.iload_n 1, 1) := by decide +kernel
theorem dX6_source_1 : decode cX6_source 1 = .ok (.i2l, 1) := by decide +kernel
theorem dX6_source_2 : decode cX6_source 2 = .ok (.lconst 0, 1) := by decide +kernel
theorem dX6_source_3 : decode cX6_source 3 = .ok (.ldc2_w 81, 3) := by decide +kernel
theorem dX6_source_6 : decode cX6_source 6 = .ok (.invokestatic 65, 3) := by decide +kernel
theorem dX6_source_9 : decode cX6_source 9 = .ok (.ifCond .eq 27, 3) := by decide +kernel
theorem dX6_source_12 : decode cX6_source 12 = .ok (.iload_n 2, 1) := by decide +kernel
theorem dX6_source_13 : decode cX6_source 13 = .ok (.i2l, 1) := by decide +kernel
theorem dX6_source_14 : decode cX6_source 14 = .ok (.lconst 1, 1) := by decide +kernel
theorem dX6_source_15 : decode cX6_source 15 = .ok (.ldc2_w 83, 3) := by decide +kernel
theorem dX6_source_18 : decode cX6_source 18 = .ok (.invokestatic 65, 3) := by decide +kernel
theorem dX6_source_21 : decode cX6_source 21 = .ok (.ifCond .eq 15, 3) := by decide +kernel
theorem dX6_source_24 : decode cX6_source 24 = .ok (.aload_n 0, 1) := by decide +kernel
theorem dX6_source_25 : decode cX6_source 25 = .ok (.iconst 0, 1) := by decide +kernel
theorem dX6_source_26 : decode cX6_source 26 = .ok (.iload_n 1, 1) := by decide +kernel
theorem dX6_source_27 : decode cX6_source 27 = .ok (.iload_n 2, 1) := by decide +kernel
theorem dX6_source_28 : decode cX6_source 28 = .ok (.ldc 85, 2) := by decide +kernel
theorem dX6_source_30 : decode cX6_source 30 = .ok (.invokevirtual 86, 3) := by decide +kernel
theorem dX6_source_33 : decode cX6_source 33 = .ok (.goto 5, 3) := by decide +kernel
theorem dX6_source_36 : decode cX6_source 36 = .ok (.ldc 90, 2) := by decide +kernel
theorem dX6_source_38 : decode cX6_source 38 = .ok (.ireturn, 1) := by decide +kernel
theorem dX6_gate_0 : decode cX6_gate 0 = .ok (.aload_n 0, 1) := by decide +kernel
theorem dX6_gate_1 : decode cX6_gate 1 = .ok (.iload_n 2, 1) := by decide +kernel
theorem dX6_gate_2 : decode cX6_gate 2 = .ok (.invokevirtual 91, 3) := by decide +kernel
theorem dX6_gate_5 : decode cX6_gate 5 = .ok (.ifCond .eq 11, 3) := by decide +kernel
theorem dX6_gate_8 : decode cX6_gate 8 = .ok (.aload_n 0, 1) := by decide +kernel
theorem dX6_gate_9 : decode cX6_gate 9 = .ok (.iload_n 3, 1) := by decide +kernel
theorem dX6_gate_10 : decode cX6_gate 10 = .ok (.invokevirtual 91, 3) := by decide +kernel
theorem dX6_gate_13 : decode cX6_gate 13 = .ok (.ifCond .ne 6, 3) := by decide +kernel
theorem dX6_gate_16 : decode cX6_gate 16 = .ok (.ldc 95, 2) := by decide +kernel
theorem dX6_gate_18 : decode cX6_gate 18 = .ok (.ireturn, 1) := by decide +kernel
theorem dX6_gate_19 : decode cX6_gate 19 = .ok (.iload_n 1, 1) := by decide +kernel
theorem dX6_gate_20 : decode cX6_gate 20 = .ok (.i2l, 1) := by decide +kernel
theorem dX6_gate_21 : decode cX6_gate 21 = .ok (.lconst 1, 1) := by decide +kernel
theorem dX6_gate_22 : decode cX6_gate 22 = .ok (.ldc2_w 96, 3) := by decide +kernel
theorem dX6_gate_25 : decode cX6_gate 25 = .ok (.invokestatic 65, 3) := by decide +kernel
theorem dX6_gate_28 : decode cX6_gate 28 = .ok (.ifCond .eq 15, 3) := by decide +kernel
theorem dX6_gate_31 : decode cX6_gate 31 = .ok (.aload_n 0, 1) := by decide +kernel
theorem dX6_gate_32 : decode cX6_gate 32 = .ok (.iload_n 1, 1) := by decide +kernel
theorem dX6_gate_33 : decode cX6_gate 33 = .ok (.iload_n 2, 1) := by decide +kernel
theorem dX6_gate_34 : decode cX6_gate 34 = .ok (.iload_n 3, 1) := by decide +kernel
theorem dX6_gate_35 : decode cX6_gate 35 = .ok (.ldc 85, 2) := by decide +kernel
theorem dX6_gate_37 : decode cX6_gate 37 = .ok (.invokevirtual 86, 3) := by decide +kernel
theorem dX6_gate_40 : decode cX6_gate 40 = .ok (.goto 5, 3) := by decide +kernel
theorem dX6_gate_43 : decode cX6_gate 43 = .ok (.ldc 90, 2) := by decide +kernel
theorem dX6_gate_45 : decode cX6_gate 45 = .ok (.ireturn, 1) := by decide +kernel
theorem dX6_choose_0 : decode cX6_choose 0 = .ok (.aload_n 0, 1) := by decide +kernel
theorem dX6_choose_1 : decode cX6_choose 1 = .ok (.iload_n 1, 1) := by decide +kernel
theorem dX6_choose_2 : decode cX6_choose 2 = .ok (.invokevirtual 91, 3) := by decide +kernel
theorem dX6_choose_5 : decode cX6_choose 5 = .ok (.ifCond .eq 30, 3) := by decide +kernel
theorem dX6_choose_8 : decode cX6_choose 8 = .ok (.aload_n 0, 1) := by decide +kernel
theorem dX6_choose_9 : decode cX6_choose 9 = .ok (.iload_n 2, 1) := by decide +kernel
theorem dX6_choose_10 : decode cX6_choose 10 = .ok (.invokevirtual 91, 3) := by decide +kernel
theorem dX6_choose_13 : decode cX6_choose 13 = .ok (.ifCond .eq 22, 3) := by decide +kernel
theorem dX6_choose_16 : decode cX6_choose 16 = .ok (.aload_n 0, 1) := by decide +kernel
theorem dX6_choose_17 : decode cX6_choose 17 = .ok (.iload_n 3, 1) := by decide +kernel
theorem dX6_choose_18 : decode cX6_choose 18 = .ok (.invokevirtual 91, 3) := by decide +kernel
theorem dX6_choose_21 : decode cX6_choose 21 = .ok (.ifCond .eq 14, 3) := by decide +kernel
theorem dX6_choose_24 : decode cX6_choose 24 = .ok (.aload_n 0, 1) := by decide +kernel
theorem dX6_choose_25 : decode cX6_choose 25 = .ok (.iconst 4, 1) := by decide +kernel
theorem dX6_choose_26 : decode cX6_choose 26 = .ok (.iload_n 1, 1) := by decide +kernel
theorem dX6_choose_27 : decode cX6_choose 27 = .ok (.iload_n 2, 1) := by decide +kernel
theorem dX6_choose_28 : decode cX6_choose 28 = .ok (.iload_n 3, 1) := by decide +kernel
theorem dX6_choose_29 : decode cX6_choose 29 = .ok (.invokevirtual 86, 3) := by decide +kernel
theorem dX6_choose_32 : decode cX6_choose 32 = .ok (.goto 5, 3) := by decide +kernel
theorem dX6_choose_35 : decode cX6_choose 35 = .ok (.ldc 95, 2) := by decide +kernel
theorem dX6_choose_37 : decode cX6_choose 37 = .ok (.ireturn, 1) := by decide +kernel
theorem dX6_turn_0 : decode cX6_turn 0 = .ok (.aload_n 0, 1) := by decide +kernel
theorem dX6_turn_1 : decode cX6_turn 1 = .ok (.iload_n 1, 1) := by decide +kernel
theorem dX6_turn_2 : decode cX6_turn 2 = .ok (.invokevirtual 91, 3) := by decide +kernel
theorem dX6_turn_5 : decode cX6_turn 5 = .ok (.ifCond .eq 16, 3) := by decide +kernel
theorem dX6_turn_8 : decode cX6_turn 8 = .ok (.aload_n 0, 1) := by decide +kernel
theorem dX6_turn_9 : decode cX6_turn 9 = .ok (.iconst 5, 1) := by decide +kernel
theorem dX6_turn_10 : decode cX6_turn 10 = .ok (.iload_n 1, 1) := by decide +kernel
theorem dX6_turn_11 : decode cX6_turn 11 = .ok (.ldc 85, 2) := by decide +kernel
theorem dX6_turn_13 : decode cX6_turn 13 = .ok (.ldc 85, 2) := by decide +kernel
theorem dX6_turn_15 : decode cX6_turn 15 = .ok (.invokevirtual 86, 3) := by decide +kernel
theorem dX6_turn_18 : decode cX6_turn 18 = .ok (.goto 5, 3) := by decide +kernel
theorem dX6_turn_21 : decode cX6_turn 21 = .ok (.ldc 95, 2) := by decide +kernel
theorem dX6_turn_23 : decode cX6_turn 23 = .ok (.ireturn, 1) := by decide +kernel
theorem dX6_delay_0 : decode cX6_delay 0 = .ok (.aload_n 0, 1) := by decide +kernel
theorem dX6_delay_1 : decode cX6_delay 1 = .ok (.iload_n 1, 1) := by decide +kernel
theorem dX6_delay_2 : decode cX6_delay 2 = .ok (.invokevirtual 91, 3) := by decide +kernel
theorem dX6_delay_5 : decode cX6_delay 5 = .ok (.ifCond .ne 6, 3) := by decide +kernel
theorem dX6_delay_8 : decode cX6_delay 8 = .ok (.ldc 95, 2) := by decide +kernel
theorem dX6_delay_10 : decode cX6_delay 10 = .ok (.ireturn, 1) := by decide +kernel
theorem dX6_delay_11 : decode cX6_delay 11 = .ok (.iload_n 2, 1) := by decide +kernel
theorem dX6_delay_12 : decode cX6_delay 12 = .ok (.i2l, 1) := by decide +kernel
theorem dX6_delay_13 : decode cX6_delay 13 = .ok (.lconst 1, 1) := by decide +kernel
theorem dX6_delay_14 : decode cX6_delay 14 = .ok (.ldc2_w 98, 3) := by decide +kernel
theorem dX6_delay_17 : decode cX6_delay 17 = .ok (.invokestatic 65, 3) := by decide +kernel
theorem dX6_delay_20 : decode cX6_delay 20 = .ok (.ifCond .eq 16, 3) := by decide +kernel
theorem dX6_delay_23 : decode cX6_delay 23 = .ok (.aload_n 0, 1) := by decide +kernel
theorem dX6_delay_24 : decode cX6_delay 24 = .ok (.bipush 6, 2) := by decide +kernel
theorem dX6_delay_26 : decode cX6_delay 26 = .ok (.iload_n 1, 1) := by decide +kernel
theorem dX6_delay_27 : decode cX6_delay 27 = .ok (.iload_n 2, 1) := by decide +kernel
theorem dX6_delay_28 : decode cX6_delay 28 = .ok (.ldc 85, 2) := by decide +kernel
theorem dX6_delay_30 : decode cX6_delay 30 = .ok (.invokevirtual 86, 3) := by decide +kernel
theorem dX6_delay_33 : decode cX6_delay 33 = .ok (.goto 5, 3) := by decide +kernel
theorem dX6_delay_36 : decode cX6_delay 36 = .ok (.ldc 90, 2) := by decide +kernel
theorem dX6_delay_38 : decode cX6_delay 38 = .ok (.ireturn, 1) := by decide +kernel
theorem dX6_reseed_0 : decode cX6_reseed 0 = .ok (.aload_n 0, 1) := by decide +kernel
theorem dX6_reseed_1 : decode cX6_reseed 1 = .ok (.iload_n 1, 1) := by decide +kernel
theorem dX6_reseed_2 : decode cX6_reseed 2 = .ok (.invokevirtual 91, 3) := by decide +kernel
theorem dX6_reseed_5 : decode cX6_reseed 5 = .ok (.ifCond .ne 6, 3) := by decide +kernel
theorem dX6_reseed_8 : decode cX6_reseed 8 = .ok (.ldc 95, 2) := by decide +kernel
theorem dX6_reseed_10 : decode cX6_reseed 10 = .ok (.ireturn, 1) := by decide +kernel
theorem dX6_reseed_11 : decode cX6_reseed 11 = .ok (.iload_n 2, 1) := by decide +kernel
theorem dX6_reseed_12 : decode cX6_reseed 12 = .ok (.i2l, 1) := by decide +kernel
theorem dX6_reseed_13 : decode cX6_reseed 13 = .ok (.lconst 0, 1) := by decide +kernel
theorem dX6_reseed_14 : decode cX6_reseed 14 = .ok (.ldc2_w 81, 3) := by decide +kernel
theorem dX6_reseed_17 : decode cX6_reseed 17 = .ok (.invokestatic 65, 3) := by decide +kernel
theorem dX6_reseed_20 : decode cX6_reseed 20 = .ok (.ifCond .eq 15, 3) := by decide +kernel
theorem dX6_reseed_23 : decode cX6_reseed 23 = .ok (.iload_n 3, 1) := by decide +kernel
theorem dX6_reseed_24 : decode cX6_reseed 24 = .ok (.i2l, 1) := by decide +kernel
theorem dX6_reseed_25 : decode cX6_reseed 25 = .ok (.lconst 1, 1) := by decide +kernel
theorem dX6_reseed_26 : decode cX6_reseed 26 = .ok (.ldc2_w 83, 3) := by decide +kernel
theorem dX6_reseed_29 : decode cX6_reseed 29 = .ok (.invokestatic 65, 3) := by decide +kernel
theorem dX6_reseed_32 : decode cX6_reseed 32 = .ok (.ifCond .ne 6, 3) := by decide +kernel
theorem dX6_reseed_35 : decode cX6_reseed 35 = .ok (.ldc 90, 2) := by decide +kernel
theorem dX6_reseed_37 : decode cX6_reseed 37 = .ok (.ireturn, 1) := by decide +kernel
theorem dX6_reseed_38 : decode cX6_reseed 38 = .ok (.aload_n 0, 1) := by decide +kernel
theorem dX6_reseed_39 : decode cX6_reseed 39 = .ok (.iload_n 1, 1) := by decide +kernel
theorem dX6_reseed_40 : decode cX6_reseed 40 = .ok (.iconst 0, 1) := by decide +kernel
theorem dX6_reseed_41 : decode cX6_reseed 41 = .ok (.invokevirtual 100, 3) := by decide +kernel
theorem dX6_reseed_44 : decode cX6_reseed 44 = .ok (.ifCond .eq 6, 3) := by decide +kernel
theorem dX6_reseed_47 : decode cX6_reseed 47 = .ok (.ldc 104, 2) := by decide +kernel
theorem dX6_reseed_49 : decode cX6_reseed 49 = .ok (.ireturn, 1) := by decide +kernel
theorem dX6_reseed_50 : decode cX6_reseed 50 = .ok (.aload_n 0, 1) := by decide +kernel
theorem dX6_reseed_51 : decode cX6_reseed 51 = .ok (.iload_n 1, 1) := by decide +kernel
theorem dX6_reseed_52 : decode cX6_reseed 52 = .ok (.iconst 1, 1) := by decide +kernel
theorem dX6_reseed_53 : decode cX6_reseed 53 = .ok (.invokevirtual 100, 3) := by decide +kernel
theorem dX6_reseed_56 : decode cX6_reseed 56 = .ok (.istore 4, 2) := by decide +kernel
theorem dX6_reseed_58 : decode cX6_reseed 58 = .ok (.iload 4, 2) := by decide +kernel
theorem dX6_reseed_60 : decode cX6_reseed 60 = .ok (.iload_n 2, 1) := by decide +kernel
theorem dX6_reseed_61 : decode cX6_reseed 61 = .ok (.if_icmp .ne 16, 3) := by decide +kernel
theorem dX6_reseed_64 : decode cX6_reseed 64 = .ok (.aload_n 0, 1) := by decide +kernel
theorem dX6_reseed_65 : decode cX6_reseed 65 = .ok (.iload_n 1, 1) := by decide +kernel
theorem dX6_reseed_66 : decode cX6_reseed 66 = .ok (.iconst 2, 1) := by decide +kernel
theorem dX6_reseed_67 : decode cX6_reseed 67 = .ok (.invokevirtual 100, 3) := by decide +kernel
theorem dX6_reseed_70 : decode cX6_reseed 70 = .ok (.iload_n 3, 1) := by decide +kernel
theorem dX6_reseed_71 : decode cX6_reseed 71 = .ok (.if_icmp .ne 6, 3) := by decide +kernel
theorem dX6_reseed_74 : decode cX6_reseed 74 = .ok (.ldc 85, 2) := by decide +kernel
theorem dX6_reseed_76 : decode cX6_reseed 76 = .ok (.ireturn, 1) := by decide +kernel
theorem dX6_reseed_77 : decode cX6_reseed 77 = .ok (.aload_n 0, 1) := by decide +kernel
theorem dX6_reseed_78 : decode cX6_reseed 78 = .ok (.invokevirtual 70, 3) := by decide +kernel
theorem dX6_reseed_81 : decode cX6_reseed 81 = .ok (.aload_n 0, 1) := by decide +kernel
theorem dX6_reseed_82 : decode cX6_reseed 82 = .ok (.getfield 7, 3) := by decide +kernel
theorem dX6_reseed_85 : decode cX6_reseed 85 = .ok (.iconst 2, 1) := by decide +kernel
theorem dX6_reseed_86 : decode cX6_reseed 86 = .ok (.iconst 4, 1) := by decide +kernel
theorem dX6_reseed_87 : decode cX6_reseed 87 = .ok (.iload_n 1, 1) := by decide +kernel
theorem dX6_reseed_88 : decode cX6_reseed 88 = .ok (.imul, 1) := by decide +kernel
theorem dX6_reseed_89 : decode cX6_reseed 89 = .ok (.iadd, 1) := by decide +kernel
theorem dX6_reseed_90 : decode cX6_reseed 90 = .ok (.iconst 1, 1) := by decide +kernel
theorem dX6_reseed_91 : decode cX6_reseed 91 = .ok (.iadd, 1) := by decide +kernel
theorem dX6_reseed_92 : decode cX6_reseed 92 = .ok (.iload_n 2, 1) := by decide +kernel
theorem dX6_reseed_93 : decode cX6_reseed 93 = .ok (.iastore, 1) := by decide +kernel
theorem dX6_reseed_94 : decode cX6_reseed 94 = .ok (.aload_n 0, 1) := by decide +kernel
theorem dX6_reseed_95 : decode cX6_reseed 95 = .ok (.getfield 7, 3) := by decide +kernel
theorem dX6_reseed_98 : decode cX6_reseed 98 = .ok (.iconst 2, 1) := by decide +kernel
theorem dX6_reseed_99 : decode cX6_reseed 99 = .ok (.iconst 4, 1) := by decide +kernel
theorem dX6_reseed_100 : decode cX6_reseed 100 = .ok (.iload_n 1, 1) := by decide +kernel
theorem dX6_reseed_101 : decode cX6_reseed 101 = .ok (.imul, 1) := by decide +kernel
theorem dX6_reseed_102 : decode cX6_reseed 102 = .ok (.iadd, 1) := by decide +kernel
theorem dX6_reseed_103 : decode cX6_reseed 103 = .ok (.iconst 2, 1) := by decide +kernel
theorem dX6_reseed_104 : decode cX6_reseed 104 = .ok (.iadd, 1) := by decide +kernel
theorem dX6_reseed_105 : decode cX6_reseed 105 = .ok (.iload_n 3, 1) := by decide +kernel
theorem dX6_reseed_106 : decode cX6_reseed 106 = .ok (.iastore, 1) := by decide +kernel
theorem dX6_reseed_107 : decode cX6_reseed 107 = .ok (.aload_n 0, 1) := by decide +kernel
theorem dX6_reseed_108 : decode cX6_reseed 108 = .ok (.iload 4, 2) := by decide +kernel
theorem dX6_reseed_110 : decode cX6_reseed 110 = .ok (.invokevirtual 77, 3) := by decide +kernel
theorem dX6_reseed_113 : decode cX6_reseed 113 = .ok (.ireturn, 1) := by decide +kernel
theorem dX6_removeLast_0 : decode cX6_removeLast 0 = .ok (.aload_n 0, 1) := by decide +kernel
theorem dX6_removeLast_1 : decode cX6_removeLast 1 = .ok (.getfield 7, 3) := by decide +kernel
theorem dX6_removeLast_4 : decode cX6_removeLast 4 = .ok (.iconst 0, 1) := by decide +kernel
theorem dX6_removeLast_5 : decode cX6_removeLast 5 = .ok (.iaload, 1) := by decide +kernel
theorem dX6_removeLast_6 : decode cX6_removeLast 6 = .ok (.ifCond .ne 6, 3) := by decide +kernel
theorem dX6_removeLast_9 : decode cX6_removeLast 9 = .ok (.ldc 85, 2) := by decide +kernel
theorem dX6_removeLast_11 : decode cX6_removeLast 11 = .ok (.ireturn, 1) := by decide +kernel
theorem dX6_removeLast_12 : decode cX6_removeLast 12 = .ok (.aload_n 0, 1) := by decide +kernel
theorem dX6_removeLast_13 : decode cX6_removeLast 13 = .ok (.invokevirtual 70, 3) := by decide +kernel
theorem dX6_removeLast_16 : decode cX6_removeLast 16 = .ok (.aload_n 0, 1) := by decide +kernel
theorem dX6_removeLast_17 : decode cX6_removeLast 17 = .ok (.getfield 7, 3) := by decide +kernel
theorem dX6_removeLast_20 : decode cX6_removeLast 20 = .ok (.iconst 0, 1) := by decide +kernel
theorem dX6_removeLast_21 : decode cX6_removeLast 21 = .ok (.dup2, 1) := by decide +kernel
theorem dX6_removeLast_22 : decode cX6_removeLast 22 = .ok (.iaload, 1) := by decide +kernel
theorem dX6_removeLast_23 : decode cX6_removeLast 23 = .ok (.iconst 1, 1) := by decide +kernel
theorem dX6_removeLast_24 : decode cX6_removeLast 24 = .ok (.isub, 1) := by decide +kernel
theorem dX6_removeLast_25 : decode cX6_removeLast 25 = .ok (.iastore, 1) := by decide +kernel
theorem dX6_removeLast_26 : decode cX6_removeLast 26 = .ok (.aload_n 0, 1) := by decide +kernel
theorem dX6_removeLast_27 : decode cX6_removeLast 27 = .ok (.aload_n 0, 1) := by decide +kernel
theorem dX6_removeLast_28 : decode cX6_removeLast 28 = .ok (.getfield 7, 3) := by decide +kernel
theorem dX6_removeLast_31 : decode cX6_removeLast 31 = .ok (.iconst 0, 1) := by decide +kernel
theorem dX6_removeLast_32 : decode cX6_removeLast 32 = .ok (.iaload, 1) := by decide +kernel
theorem dX6_removeLast_33 : decode cX6_removeLast 33 = .ok (.invokevirtual 77, 3) := by decide +kernel
theorem dX6_removeLast_36 : decode cX6_removeLast 36 = .ok (.ireturn, 1) := by decide +kernel
theorem dX6_setLength_0 : decode cX6_setLength 0 = .ok (.iload_n 1, 1) := by decide +kernel
theorem dX6_setLength_1 : decode cX6_setLength 1 = .ok (.i2l, 1) := by decide +kernel
theorem dX6_setLength_2 : decode cX6_setLength 2 = .ok (.lconst 1, 1) := by decide +kernel
theorem dX6_setLength_3 : decode cX6_setLength 3 = .ok (.ldc2_w 105, 3) := by decide +kernel
theorem dX6_setLength_6 : decode cX6_setLength 6 = .ok (.invokestatic 65, 3) := by decide +kernel
theorem dX6_setLength_9 : decode cX6_setLength 9 = .ok (.ifCond .ne 6, 3) := by decide +kernel
theorem dX6_setLength_12 : decode cX6_setLength 12 = .ok (.ldc 90, 2) := by decide +kernel
theorem dX6_setLength_14 : decode cX6_setLength 14 = .ok (.ireturn, 1) := by decide +kernel
theorem dX6_setLength_15 : decode cX6_setLength 15 = .ok (.aload_n 0, 1) := by decide +kernel
theorem dX6_setLength_16 : decode cX6_setLength 16 = .ok (.getfield 7, 3) := by decide +kernel
theorem dX6_setLength_19 : decode cX6_setLength 19 = .ok (.iconst 1, 1) := by decide +kernel
theorem dX6_setLength_20 : decode cX6_setLength 20 = .ok (.iaload, 1) := by decide +kernel
theorem dX6_setLength_21 : decode cX6_setLength 21 = .ok (.istore_n 2, 1) := by decide +kernel
theorem dX6_setLength_22 : decode cX6_setLength 22 = .ok (.iload_n 2, 1) := by decide +kernel
theorem dX6_setLength_23 : decode cX6_setLength 23 = .ok (.iload_n 1, 1) := by decide +kernel
theorem dX6_setLength_24 : decode cX6_setLength 24 = .ok (.if_icmp .ne 6, 3) := by decide +kernel
theorem dX6_setLength_27 : decode cX6_setLength 27 = .ok (.ldc 85, 2) := by decide +kernel
theorem dX6_setLength_29 : decode cX6_setLength 29 = .ok (.ireturn, 1) := by decide +kernel
theorem dX6_setLength_30 : decode cX6_setLength 30 = .ok (.aload_n 0, 1) := by decide +kernel
theorem dX6_setLength_31 : decode cX6_setLength 31 = .ok (.invokevirtual 70, 3) := by decide +kernel
theorem dX6_setLength_34 : decode cX6_setLength 34 = .ok (.aload_n 0, 1) := by decide +kernel
theorem dX6_setLength_35 : decode cX6_setLength 35 = .ok (.getfield 7, 3) := by decide +kernel
theorem dX6_setLength_38 : decode cX6_setLength 38 = .ok (.iconst 1, 1) := by decide +kernel
theorem dX6_setLength_39 : decode cX6_setLength 39 = .ok (.iload_n 1, 1) := by decide +kernel
theorem dX6_setLength_40 : decode cX6_setLength 40 = .ok (.iastore, 1) := by decide +kernel
theorem dX6_setLength_41 : decode cX6_setLength 41 = .ok (.aload_n 0, 1) := by decide +kernel
theorem dX6_setLength_42 : decode cX6_setLength 42 = .ok (.iload_n 2, 1) := by decide +kernel
theorem dX6_setLength_43 : decode cX6_setLength 43 = .ok (.invokevirtual 77, 3) := by decide +kernel
theorem dX6_setLength_46 : decode cX6_setLength 46 = .ok (.ireturn, 1) := by decide +kernel
theorem dX6_bitAt_0 : decode cX6_bitAt 0 = .ok (.aload_n 0, 1) := by decide +kernel
theorem dX6_bitAt_1 : decode cX6_bitAt 1 = .ok (.getfield 26, 3) := by decide +kernel
theorem dX6_bitAt_4 : decode cX6_bitAt 4 = .ok (.sipush 1000, 3) := by decide +kernel
theorem dX6_bitAt_7 : decode cX6_bitAt 7 = .ok (.iload_n 1, 1) := by decide +kernel
theorem dX6_bitAt_8 : decode cX6_bitAt 8 = .ok (.imul, 1) := by decide +kernel
theorem dX6_bitAt_9 : decode cX6_bitAt 9 = .ok (.iload_n 2, 1) := by decide +kernel
theorem dX6_bitAt_10 : decode cX6_bitAt 10 = .ok (.iadd, 1) := by decide +kernel
theorem dX6_bitAt_11 : decode cX6_bitAt 11 = .ok (.iaload, 1) := by decide +kernel
theorem dX6_bitAt_12 : decode cX6_bitAt 12 = .ok (.ireturn, 1) := by decide +kernel
theorem dX6_goesOn_0 : decode cX6_goesOn 0 = .ok (.iconst 2, 1) := by decide +kernel
theorem dX6_goesOn_1 : decode cX6_goesOn 1 = .ok (.iload_n 0, 1) := by decide +kernel
theorem dX6_goesOn_2 : decode cX6_goesOn 2 = .ok (.imul, 1) := by decide +kernel
theorem dX6_goesOn_3 : decode cX6_goesOn 3 = .ok (.istore_n 1, 1) := by decide +kernel
theorem dX6_goesOn_4 : decode cX6_goesOn 4 = .ok (.iload_n 1, 1) := by decide +kernel
theorem dX6_goesOn_5 : decode cX6_goesOn 5 = .ok (.sipush 255, 3) := by decide +kernel
theorem dX6_goesOn_8 : decode cX6_goesOn 8 = .ok (.if_icmp .le 14, 3) := by decide +kernel
theorem dX6_goesOn_11 : decode cX6_goesOn 11 = .ok (.iload_n 1, 1) := by decide +kernel
theorem dX6_goesOn_12 : decode cX6_goesOn 12 = .ok (.sipush 256, 3) := by decide +kernel
theorem dX6_goesOn_15 : decode cX6_goesOn 15 = .ok (.isub, 1) := by decide +kernel
theorem dX6_goesOn_16 : decode cX6_goesOn 16 = .ok (.bipush 29, 2) := by decide +kernel
theorem dX6_goesOn_18 : decode cX6_goesOn 18 = .ok (.ixor, 1) := by decide +kernel
theorem dX6_goesOn_19 : decode cX6_goesOn 19 = .ok (.goto 4, 3) := by decide +kernel
theorem dX6_goesOn_22 : decode cX6_goesOn 22 = .ok (.iload_n 1, 1) := by decide +kernel
theorem dX6_goesOn_23 : decode cX6_goesOn 23 = .ok (.ireturn, 1) := by decide +kernel
theorem dX6_bitOf_0 : decode cX6_bitOf 0 = .ok (.aload_n 0, 1) := by decide +kernel
theorem dX6_bitOf_1 : decode cX6_bitOf 1 = .ok (.iload_n 1, 1) := by decide +kernel
theorem dX6_bitOf_2 : decode cX6_bitOf 2 = .ok (.iconst 1, 1) := by decide +kernel
theorem dX6_bitOf_3 : decode cX6_bitOf 3 = .ok (.invokevirtual 100, 3) := by decide +kernel
theorem dX6_bitOf_6 : decode cX6_bitOf 6 = .ok (.istore_n 3, 1) := by decide +kernel
theorem dX6_bitOf_7 : decode cX6_bitOf 7 = .ok (.aload_n 0, 1) := by decide +kernel
theorem dX6_bitOf_8 : decode cX6_bitOf 8 = .ok (.iload_n 1, 1) := by decide +kernel
theorem dX6_bitOf_9 : decode cX6_bitOf 9 = .ok (.iconst 2, 1) := by decide +kernel
theorem dX6_bitOf_10 : decode cX6_bitOf 10 = .ok (.invokevirtual 100, 3) := by decide +kernel
theorem dX6_bitOf_13 : decode cX6_bitOf 13 = .ok (.istore 4, 2) := by decide +kernel
theorem dX6_bitOf_15 : decode cX6_bitOf 15 = .ok (.aload_n 0, 1) := by decide +kernel
theorem dX6_bitOf_16 : decode cX6_bitOf 16 = .ok (.iload_n 1, 1) := by decide +kernel
theorem dX6_bitOf_17 : decode cX6_bitOf 17 = .ok (.iconst 0, 1) := by decide +kernel
theorem dX6_bitOf_18 : decode cX6_bitOf 18 = .ok (.invokevirtual 100, 3) := by decide +kernel
theorem dX6_bitOf_21 : decode cX6_bitOf 21 = .ok (.tableswitch 136 0 5 #[39, 55, 70, 85, 100, 127], 39) := by decide +kernel
theorem dX6_bitOf_60 : decode cX6_bitOf 60 = .ok (.aload_n 0, 1) := by decide +kernel
theorem dX6_bitOf_61 : decode cX6_bitOf 61 = .ok (.getfield 29, 3) := by decide +kernel
theorem dX6_bitOf_64 : decode cX6_bitOf 64 = .ok (.iload_n 1, 1) := by decide +kernel
theorem dX6_bitOf_65 : decode cX6_bitOf 65 = .ok (.iaload, 1) := by decide +kernel
theorem dX6_bitOf_66 : decode cX6_bitOf 66 = .ok (.iload_n 3, 1) := by decide +kernel
theorem dX6_bitOf_67 : decode cX6_bitOf 67 = .ok (.if_icmp .gt 7, 3) := by decide +kernel
theorem dX6_bitOf_70 : decode cX6_bitOf 70 = .ok (.iconst 1, 1) := by decide +kernel
theorem dX6_bitOf_71 : decode cX6_bitOf 71 = .ok (.goto 4, 3) := by decide +kernel
theorem dX6_bitOf_74 : decode cX6_bitOf 74 = .ok (.iconst 0, 1) := by decide +kernel
theorem dX6_bitOf_75 : decode cX6_bitOf 75 = .ok (.ireturn, 1) := by decide +kernel
theorem dX6_bitOf_76 : decode cX6_bitOf 76 = .ok (.aload_n 0, 1) := by decide +kernel
theorem dX6_bitOf_77 : decode cX6_bitOf 77 = .ok (.iload_n 3, 1) := by decide +kernel
theorem dX6_bitOf_78 : decode cX6_bitOf 78 = .ok (.iload_n 2, 1) := by decide +kernel
theorem dX6_bitOf_79 : decode cX6_bitOf 79 = .ok (.invokevirtual 107, 3) := by decide +kernel
theorem dX6_bitOf_82 : decode cX6_bitOf 82 = .ok (.aload_n 0, 1) := by decide +kernel
theorem dX6_bitOf_83 : decode cX6_bitOf 83 = .ok (.iload 4, 2) := by decide +kernel
theorem dX6_bitOf_85 : decode cX6_bitOf 85 = .ok (.iload_n 2, 1) := by decide +kernel
theorem dX6_bitOf_86 : decode cX6_bitOf 86 = .ok (.invokevirtual 107, 3) := by decide +kernel
theorem dX6_bitOf_89 : decode cX6_bitOf 89 = .ok (.iand, 1) := by decide +kernel
theorem dX6_bitOf_90 : decode cX6_bitOf 90 = .ok (.ireturn, 1) := by decide +kernel
theorem dX6_bitOf_91 : decode cX6_bitOf 91 = .ok (.aload_n 0, 1) := by decide +kernel
theorem dX6_bitOf_92 : decode cX6_bitOf 92 = .ok (.iload_n 3, 1) := by decide +kernel
theorem dX6_bitOf_93 : decode cX6_bitOf 93 = .ok (.iload_n 2, 1) := by decide +kernel
theorem dX6_bitOf_94 : decode cX6_bitOf 94 = .ok (.invokevirtual 107, 3) := by decide +kernel
theorem dX6_bitOf_97 : decode cX6_bitOf 97 = .ok (.aload_n 0, 1) := by decide +kernel
theorem dX6_bitOf_98 : decode cX6_bitOf 98 = .ok (.iload 4, 2) := by decide +kernel
theorem dX6_bitOf_100 : decode cX6_bitOf 100 = .ok (.iload_n 2, 1) := by decide +kernel
theorem dX6_bitOf_101 : decode cX6_bitOf 101 = .ok (.invokevirtual 107, 3) := by decide +kernel
theorem dX6_bitOf_104 : decode cX6_bitOf 104 = .ok (.ior, 1) := by decide +kernel
theorem dX6_bitOf_105 : decode cX6_bitOf 105 = .ok (.ireturn, 1) := by decide +kernel
theorem dX6_bitOf_106 : decode cX6_bitOf 106 = .ok (.aload_n 0, 1) := by decide +kernel
theorem dX6_bitOf_107 : decode cX6_bitOf 107 = .ok (.iload_n 3, 1) := by decide +kernel
theorem dX6_bitOf_108 : decode cX6_bitOf 108 = .ok (.iload_n 2, 1) := by decide +kernel
theorem dX6_bitOf_109 : decode cX6_bitOf 109 = .ok (.invokevirtual 107, 3) := by decide +kernel
theorem dX6_bitOf_112 : decode cX6_bitOf 112 = .ok (.aload_n 0, 1) := by decide +kernel
theorem dX6_bitOf_113 : decode cX6_bitOf 113 = .ok (.iload 4, 2) := by decide +kernel
theorem dX6_bitOf_115 : decode cX6_bitOf 115 = .ok (.iload_n 2, 1) := by decide +kernel
theorem dX6_bitOf_116 : decode cX6_bitOf 116 = .ok (.invokevirtual 107, 3) := by decide +kernel
theorem dX6_bitOf_119 : decode cX6_bitOf 119 = .ok (.ixor, 1) := by decide +kernel
theorem dX6_bitOf_120 : decode cX6_bitOf 120 = .ok (.ireturn, 1) := by decide +kernel
theorem dX6_bitOf_121 : decode cX6_bitOf 121 = .ok (.aload_n 0, 1) := by decide +kernel
theorem dX6_bitOf_122 : decode cX6_bitOf 122 = .ok (.aload_n 0, 1) := by decide +kernel
theorem dX6_bitOf_123 : decode cX6_bitOf 123 = .ok (.aload_n 0, 1) := by decide +kernel
theorem dX6_bitOf_124 : decode cX6_bitOf 124 = .ok (.iload_n 1, 1) := by decide +kernel
theorem dX6_bitOf_125 : decode cX6_bitOf 125 = .ok (.iconst 3, 1) := by decide +kernel
theorem dX6_bitOf_126 : decode cX6_bitOf 126 = .ok (.invokevirtual 100, 3) := by decide +kernel
theorem dX6_bitOf_129 : decode cX6_bitOf 129 = .ok (.iload_n 2, 1) := by decide +kernel
theorem dX6_bitOf_130 : decode cX6_bitOf 130 = .ok (.invokevirtual 107, 3) := by decide +kernel
theorem dX6_bitOf_133 : decode cX6_bitOf 133 = .ok (.iconst 1, 1) := by decide +kernel
theorem dX6_bitOf_134 : decode cX6_bitOf 134 = .ok (.if_icmp .ne 7, 3) := by decide +kernel
theorem dX6_bitOf_137 : decode cX6_bitOf 137 = .ok (.iload_n 3, 1) := by decide +kernel
theorem dX6_bitOf_138 : decode cX6_bitOf 138 = .ok (.goto 5, 3) := by decide +kernel
theorem dX6_bitOf_141 : decode cX6_bitOf 141 = .ok (.iload 4, 2) := by decide +kernel
theorem dX6_bitOf_143 : decode cX6_bitOf 143 = .ok (.iload_n 2, 1) := by decide +kernel
theorem dX6_bitOf_144 : decode cX6_bitOf 144 = .ok (.invokevirtual 107, 3) := by decide +kernel
theorem dX6_bitOf_147 : decode cX6_bitOf 147 = .ok (.ireturn, 1) := by decide +kernel
theorem dX6_bitOf_148 : decode cX6_bitOf 148 = .ok (.iconst 1, 1) := by decide +kernel
theorem dX6_bitOf_149 : decode cX6_bitOf 149 = .ok (.aload_n 0, 1) := by decide +kernel
theorem dX6_bitOf_150 : decode cX6_bitOf 150 = .ok (.iload_n 3, 1) := by decide +kernel
theorem dX6_bitOf_151 : decode cX6_bitOf 151 = .ok (.iload_n 2, 1) := by decide +kernel
theorem dX6_bitOf_152 : decode cX6_bitOf 152 = .ok (.invokevirtual 107, 3) := by decide +kernel
theorem dX6_bitOf_155 : decode cX6_bitOf 155 = .ok (.isub, 1) := by decide +kernel
theorem dX6_bitOf_156 : decode cX6_bitOf 156 = .ok (.ireturn, 1) := by decide +kernel
theorem dX6_bitOf_157 : decode cX6_bitOf 157 = .ok (.iload_n 2, 1) := by decide +kernel
theorem dX6_bitOf_158 : decode cX6_bitOf 158 = .ok (.iload 4, 2) := by decide +kernel
theorem dX6_bitOf_160 : decode cX6_bitOf 160 = .ok (.if_icmp .ge 7, 3) := by decide +kernel
theorem dX6_bitOf_163 : decode cX6_bitOf 163 = .ok (.iconst 0, 1) := by decide +kernel
theorem dX6_bitOf_164 : decode cX6_bitOf 164 = .ok (.goto 12, 3) := by decide +kernel
theorem dX6_bitOf_167 : decode cX6_bitOf 167 = .ok (.aload_n 0, 1) := by decide +kernel
theorem dX6_bitOf_168 : decode cX6_bitOf 168 = .ok (.iload_n 3, 1) := by decide +kernel
theorem dX6_bitOf_169 : decode cX6_bitOf 169 = .ok (.iload_n 2, 1) := by decide +kernel
theorem dX6_bitOf_170 : decode cX6_bitOf 170 = .ok (.iload 4, 2) := by decide +kernel
theorem dX6_bitOf_172 : decode cX6_bitOf 172 = .ok (.isub, 1) := by decide +kernel
theorem dX6_bitOf_173 : decode cX6_bitOf 173 = .ok (.invokevirtual 107, 3) := by decide +kernel
theorem dX6_bitOf_176 : decode cX6_bitOf 176 = .ok (.ireturn, 1) := by decide +kernel
theorem dX6_lays_0 : decode cX6_lays 0 = .ok (.iconst 0, 1) := by decide +kernel
theorem dX6_lays_1 : decode cX6_lays 1 = .ok (.istore_n 3, 1) := by decide +kernel
theorem dX6_lays_2 : decode cX6_lays 2 = .ok (.iload_n 3, 1) := by decide +kernel
theorem dX6_lays_3 : decode cX6_lays 3 = .ok (.iload_n 1, 1) := by decide +kernel
theorem dX6_lays_4 : decode cX6_lays 4 = .ok (.if_icmp .gt 84, 3) := by decide +kernel
theorem dX6_lays_7 : decode cX6_lays 7 = .ok (.aload_n 0, 1) := by decide +kernel
theorem dX6_lays_8 : decode cX6_lays 8 = .ok (.getfield 29, 3) := by decide +kernel
theorem dX6_lays_11 : decode cX6_lays 11 = .ok (.iload_n 3, 1) := by decide +kernel
theorem dX6_lays_12 : decode cX6_lays 12 = .ok (.aload_n 0, 1) := by decide +kernel
theorem dX6_lays_13 : decode cX6_lays 13 = .ok (.iload_n 3, 1) := by decide +kernel
theorem dX6_lays_14 : decode cX6_lays 14 = .ok (.iconst 2, 1) := by decide +kernel
theorem dX6_lays_15 : decode cX6_lays 15 = .ok (.invokevirtual 100, 3) := by decide +kernel
theorem dX6_lays_18 : decode cX6_lays 18 = .ok (.iastore, 1) := by decide +kernel
theorem dX6_lays_19 : decode cX6_lays 19 = .ok (.iconst 0, 1) := by decide +kernel
theorem dX6_lays_20 : decode cX6_lays 20 = .ok (.istore 4, 2) := by decide +kernel
theorem dX6_lays_22 : decode cX6_lays 22 = .ok (.iload 4, 2) := by decide +kernel
theorem dX6_lays_24 : decode cX6_lays 24 = .ok (.iload_n 2, 1) := by decide +kernel
theorem dX6_lays_25 : decode cX6_lays 25 = .ok (.if_icmp .ge 57, 3) := by decide +kernel
theorem dX6_lays_28 : decode cX6_lays 28 = .ok (.aload_n 0, 1) := by decide +kernel
theorem dX6_lays_29 : decode cX6_lays 29 = .ok (.getfield 26, 3) := by decide +kernel
theorem dX6_lays_32 : decode cX6_lays 32 = .ok (.sipush 1000, 3) := by decide +kernel
theorem dX6_lays_35 : decode cX6_lays 35 = .ok (.iload_n 3, 1) := by decide +kernel
theorem dX6_lays_36 : decode cX6_lays 36 = .ok (.imul, 1) := by decide +kernel
theorem dX6_lays_37 : decode cX6_lays 37 = .ok (.iload 4, 2) := by decide +kernel
theorem dX6_lays_39 : decode cX6_lays 39 = .ok (.iadd, 1) := by decide +kernel
theorem dX6_lays_40 : decode cX6_lays 40 = .ok (.aload_n 0, 1) := by decide +kernel
theorem dX6_lays_41 : decode cX6_lays 41 = .ok (.iload_n 3, 1) := by decide +kernel
theorem dX6_lays_42 : decode cX6_lays 42 = .ok (.iload 4, 2) := by decide +kernel
theorem dX6_lays_44 : decode cX6_lays 44 = .ok (.invokevirtual 110, 3) := by decide +kernel
theorem dX6_lays_47 : decode cX6_lays 47 = .ok (.iastore, 1) := by decide +kernel
theorem dX6_lays_48 : decode cX6_lays 48 = .ok (.aload_n 0, 1) := by decide +kernel
theorem dX6_lays_49 : decode cX6_lays 49 = .ok (.getfield 29, 3) := by decide +kernel
theorem dX6_lays_52 : decode cX6_lays 52 = .ok (.iload_n 3, 1) := by decide +kernel
theorem dX6_lays_53 : decode cX6_lays 53 = .ok (.aload_n 0, 1) := by decide +kernel
theorem dX6_lays_54 : decode cX6_lays 54 = .ok (.iload_n 3, 1) := by decide +kernel
theorem dX6_lays_55 : decode cX6_lays 55 = .ok (.iconst 0, 1) := by decide +kernel
theorem dX6_lays_56 : decode cX6_lays 56 = .ok (.invokevirtual 100, 3) := by decide +kernel
theorem dX6_lays_59 : decode cX6_lays 59 = .ok (.ifCond .ne 15, 3) := by decide +kernel
theorem dX6_lays_62 : decode cX6_lays 62 = .ok (.aload_n 0, 1) := by decide +kernel
theorem dX6_lays_63 : decode cX6_lays 63 = .ok (.getfield 29, 3) := by decide +kernel
theorem dX6_lays_66 : decode cX6_lays 66 = .ok (.iload_n 3, 1) := by decide +kernel
theorem dX6_lays_67 : decode cX6_lays 67 = .ok (.iaload, 1) := by decide +kernel
theorem dX6_lays_68 : decode cX6_lays 68 = .ok (.invokestatic 113, 3) := by decide +kernel
theorem dX6_lays_71 : decode cX6_lays 71 = .ok (.goto 4, 3) := by decide +kernel
theorem dX6_lays_74 : decode cX6_lays 74 = .ok (.iconst 0, 1) := by decide +kernel
theorem dX6_lays_75 : decode cX6_lays 75 = .ok (.iastore, 1) := by decide +kernel
theorem dX6_lays_76 : decode cX6_lays 76 = .ok (.iinc 4 1, 3) := by decide +kernel
theorem dX6_lays_79 : decode cX6_lays 79 = .ok (.goto (-57), 3) := by decide +kernel
theorem dX6_lays_82 : decode cX6_lays 82 = .ok (.iinc 3 1, 3) := by decide +kernel
theorem dX6_lays_85 : decode cX6_lays 85 = .ok (.goto (-83), 3) := by decide +kernel
theorem dX6_lays_88 : decode cX6_lays 88 = .ok (.return_, 1) := by decide +kernel
theorem dX6_countOf_0 : decode cX6_countOf 0 = .ok (.iconst 0, 1) := by decide +kernel
theorem dX6_countOf_1 : decode cX6_countOf 1 = .ok (.istore_n 3, 1) := by decide +kernel
theorem dX6_countOf_2 : decode cX6_countOf 2 = .ok (.iconst 0, 1) := by decide +kernel
theorem dX6_countOf_3 : decode cX6_countOf 3 = .ok (.istore 4, 2) := by decide +kernel
theorem dX6_countOf_5 : decode cX6_countOf 5 = .ok (.iload 4, 2) := by decide +kernel
theorem dX6_countOf_7 : decode cX6_countOf 7 = .ok (.iload_n 2, 1) := by decide +kernel
theorem dX6_countOf_8 : decode cX6_countOf 8 = .ok (.if_icmp .ge 19, 3) := by decide +kernel
theorem dX6_countOf_11 : decode cX6_countOf 11 = .ok (.iload_n 3, 1) := by decide +kernel
theorem dX6_countOf_12 : decode cX6_countOf 12 = .ok (.aload_n 0, 1) := by decide +kernel
theorem dX6_countOf_13 : decode cX6_countOf 13 = .ok (.iload_n 1, 1) := by decide +kernel
theorem dX6_countOf_14 : decode cX6_countOf 14 = .ok (.iload 4, 2) := by decide +kernel
theorem dX6_countOf_16 : decode cX6_countOf 16 = .ok (.invokevirtual 107, 3) := by decide +kernel
theorem dX6_countOf_19 : decode cX6_countOf 19 = .ok (.iadd, 1) := by decide +kernel
theorem dX6_countOf_20 : decode cX6_countOf 20 = .ok (.istore_n 3, 1) := by decide +kernel
theorem dX6_countOf_21 : decode cX6_countOf 21 = .ok (.iinc 4 1, 3) := by decide +kernel
theorem dX6_countOf_24 : decode cX6_countOf 24 = .ok (.goto (-19), 3) := by decide +kernel
theorem dX6_countOf_27 : decode cX6_countOf 27 = .ok (.iload_n 3, 1) := by decide +kernel
theorem dX6_countOf_28 : decode cX6_countOf 28 = .ok (.ireturn, 1) := by decide +kernel
theorem dX6_findsExact_0 : decode cX6_findsExact 0 = .ok (.iconst 0, 1) := by decide +kernel
theorem dX6_findsExact_1 : decode cX6_findsExact 1 = .ok (.istore_n 2, 1) := by decide +kernel
theorem dX6_findsExact_2 : decode cX6_findsExact 2 = .ok (.iload_n 2, 1) := by decide +kernel
theorem dX6_findsExact_3 : decode cX6_findsExact 3 = .ok (.iload_n 1, 1) := by decide +kernel
theorem dX6_findsExact_4 : decode cX6_findsExact 4 = .ok (.if_icmp .gt 224, 3) := by decide +kernel
theorem dX6_findsExact_7 : decode cX6_findsExact 7 = .ok (.aload_n 0, 1) := by decide +kernel
theorem dX6_findsExact_8 : decode cX6_findsExact 8 = .ok (.iload_n 2, 1) := by decide +kernel
theorem dX6_findsExact_9 : decode cX6_findsExact 9 = .ok (.iconst 0, 1) := by decide +kernel
theorem dX6_findsExact_10 : decode cX6_findsExact 10 = .ok (.invokevirtual 100, 3) := by decide +kernel
theorem dX6_findsExact_13 : decode cX6_findsExact 13 = .ok (.istore_n 3, 1) := by decide +kernel
theorem dX6_findsExact_14 : decode cX6_findsExact 14 = .ok (.iload_n 3, 1) := by decide +kernel
theorem dX6_findsExact_15 : decode cX6_findsExact 15 = .ok (.ifCond .ne 7, 3) := by decide +kernel
theorem dX6_findsExact_18 : decode cX6_findsExact 18 = .ok (.lconst 0, 1) := by decide +kernel
theorem dX6_findsExact_19 : decode cX6_findsExact 19 = .ok (.goto 15, 3) := by decide +kernel
theorem dX6_findsExact_22 : decode cX6_findsExact 22 = .ok (.aload_n 0, 1) := by decide +kernel
theorem dX6_findsExact_23 : decode cX6_findsExact 23 = .ok (.getfield 32, 3) := by decide +kernel
theorem dX6_findsExact_26 : decode cX6_findsExact 26 = .ok (.aload_n 0, 1) := by decide +kernel
theorem dX6_findsExact_27 : decode cX6_findsExact 27 = .ok (.iload_n 2, 1) := by decide +kernel
theorem dX6_findsExact_28 : decode cX6_findsExact 28 = .ok (.iconst 1, 1) := by decide +kernel
theorem dX6_findsExact_29 : decode cX6_findsExact 29 = .ok (.invokevirtual 100, 3) := by decide +kernel
theorem dX6_findsExact_32 : decode cX6_findsExact 32 = .ok (.iaload, 1) := by decide +kernel
theorem dX6_findsExact_33 : decode cX6_findsExact 33 = .ok (.i2l, 1) := by decide +kernel
theorem dX6_findsExact_34 : decode cX6_findsExact 34 = .ok (.lstore 4, 2) := by decide +kernel
theorem dX6_findsExact_36 : decode cX6_findsExact 36 = .ok (.iload_n 3, 1) := by decide +kernel
theorem dX6_findsExact_37 : decode cX6_findsExact 37 = .ok (.i2l, 1) := by decide +kernel
theorem dX6_findsExact_38 : decode cX6_findsExact 38 = .ok (.lconst 1, 1) := by decide +kernel
theorem dX6_findsExact_39 : decode cX6_findsExact 39 = .ok (.ldc2_w 116, 3) := by decide +kernel
theorem dX6_findsExact_42 : decode cX6_findsExact 42 = .ok (.invokestatic 65, 3) := by decide +kernel
theorem dX6_findsExact_45 : decode cX6_findsExact 45 = .ok (.ifCond .eq 18, 3) := by decide +kernel
theorem dX6_findsExact_48 : decode cX6_findsExact 48 = .ok (.aload_n 0, 1) := by decide +kernel
theorem dX6_findsExact_49 : decode cX6_findsExact 49 = .ok (.getfield 32, 3) := by decide +kernel
theorem dX6_findsExact_52 : decode cX6_findsExact 52 = .ok (.aload_n 0, 1) := by decide +kernel
theorem dX6_findsExact_53 : decode cX6_findsExact 53 = .ok (.iload_n 2, 1) := by decide +kernel
theorem dX6_findsExact_54 : decode cX6_findsExact 54 = .ok (.iconst 2, 1) := by decide +kernel
theorem dX6_findsExact_55 : decode cX6_findsExact 55 = .ok (.invokevirtual 100, 3) := by decide +kernel
theorem dX6_findsExact_58 : decode cX6_findsExact 58 = .ok (.iaload, 1) := by decide +kernel
theorem dX6_findsExact_59 : decode cX6_findsExact 59 = .ok (.i2l, 1) := by decide +kernel
theorem dX6_findsExact_60 : decode cX6_findsExact 60 = .ok (.goto 4, 3) := by decide +kernel
theorem dX6_findsExact_63 : decode cX6_findsExact 63 = .ok (.lconst 0, 1) := by decide +kernel
theorem dX6_findsExact_64 : decode cX6_findsExact 64 = .ok (.lstore 6, 2) := by decide +kernel
theorem dX6_findsExact_66 : decode cX6_findsExact 66 = .ok (.lload 4, 2) := by decide +kernel
theorem dX6_findsExact_68 : decode cX6_findsExact 68 = .ok (.lload 6, 2) := by decide +kernel
theorem dX6_findsExact_70 : decode cX6_findsExact 70 = .ok (.lmul, 1) := by decide +kernel
theorem dX6_findsExact_71 : decode cX6_findsExact 71 = .ok (.ldc2_w 118, 3) := by decide +kernel
theorem dX6_findsExact_74 : decode cX6_findsExact 74 = .ok (.ldiv, 1) := by decide +kernel
theorem dX6_findsExact_75 : decode cX6_findsExact 75 = .ok (.lstore 8, 2) := by decide +kernel
theorem dX6_findsExact_77 : decode cX6_findsExact 77 = .ok (.iload_n 3, 1) := by decide +kernel
theorem dX6_findsExact_78 : decode cX6_findsExact 78 = .ok (.iconst 4, 1) := by decide +kernel
theorem dX6_findsExact_79 : decode cX6_findsExact 79 = .ok (.if_icmp .ne 18, 3) := by decide +kernel
theorem dX6_findsExact_82 : decode cX6_findsExact 82 = .ok (.aload_n 0, 1) := by decide +kernel
theorem dX6_findsExact_83 : decode cX6_findsExact 83 = .ok (.getfield 32, 3) := by decide +kernel
theorem dX6_findsExact_86 : decode cX6_findsExact 86 = .ok (.aload_n 0, 1) := by decide +kernel
theorem dX6_findsExact_87 : decode cX6_findsExact 87 = .ok (.iload_n 2, 1) := by decide +kernel
theorem dX6_findsExact_88 : decode cX6_findsExact 88 = .ok (.iconst 3, 1) := by decide +kernel
theorem dX6_findsExact_89 : decode cX6_findsExact 89 = .ok (.invokevirtual 100, 3) := by decide +kernel
theorem dX6_findsExact_92 : decode cX6_findsExact 92 = .ok (.iaload, 1) := by decide +kernel
theorem dX6_findsExact_93 : decode cX6_findsExact 93 = .ok (.i2l, 1) := by decide +kernel
theorem dX6_findsExact_94 : decode cX6_findsExact 94 = .ok (.goto 4, 3) := by decide +kernel
theorem dX6_findsExact_97 : decode cX6_findsExact 97 = .ok (.lconst 0, 1) := by decide +kernel
theorem dX6_findsExact_98 : decode cX6_findsExact 98 = .ok (.lstore 10, 2) := by decide +kernel
theorem dX6_findsExact_100 : decode cX6_findsExact 100 = .ok (.iload_n 3, 1) := by decide +kernel
theorem dX6_findsExact_101 : decode cX6_findsExact 101 = .ok (.iconst 1, 1) := by decide +kernel
theorem dX6_findsExact_102 : decode cX6_findsExact 102 = .ok (.if_icmp .ne 8, 3) := by decide +kernel
theorem dX6_findsExact_105 : decode cX6_findsExact 105 = .ok (.lload 8, 2) := by decide +kernel
theorem dX6_findsExact_107 : decode cX6_findsExact 107 = .ok (.goto 55, 3) := by decide +kernel
theorem dX6_findsExact_110 : decode cX6_findsExact 110 = .ok (.iload_n 3, 1) := by decide +kernel
theorem dX6_findsExact_111 : decode cX6_findsExact 111 = .ok (.iconst 2, 1) := by decide +kernel
theorem dX6_findsExact_112 : decode cX6_findsExact 112 = .ok (.if_icmp .ne 14, 3) := by decide +kernel
theorem dX6_findsExact_115 : decode cX6_findsExact 115 = .ok (.lload 4, 2) := by decide +kernel
theorem dX6_findsExact_117 : decode cX6_findsExact 117 = .ok (.lload 6, 2) := by decide +kernel
theorem dX6_findsExact_119 : decode cX6_findsExact 119 = .ok (.ladd, 1) := by decide +kernel
theorem dX6_findsExact_120 : decode cX6_findsExact 120 = .ok (.lload 8, 2) := by decide +kernel
theorem dX6_findsExact_122 : decode cX6_findsExact 122 = .ok (.lsub, 1) := by decide +kernel
theorem dX6_findsExact_123 : decode cX6_findsExact 123 = .ok (.goto 39, 3) := by decide +kernel
theorem dX6_findsExact_126 : decode cX6_findsExact 126 = .ok (.iload_n 3, 1) := by decide +kernel
theorem dX6_findsExact_127 : decode cX6_findsExact 127 = .ok (.iconst 3, 1) := by decide +kernel
theorem dX6_findsExact_128 : decode cX6_findsExact 128 = .ok (.if_icmp .ne 18, 3) := by decide +kernel
theorem dX6_findsExact_131 : decode cX6_findsExact 131 = .ok (.lload 4, 2) := by decide +kernel
theorem dX6_findsExact_133 : decode cX6_findsExact 133 = .ok (.lload 6, 2) := by decide +kernel
theorem dX6_findsExact_135 : decode cX6_findsExact 135 = .ok (.ladd, 1) := by decide +kernel
theorem dX6_findsExact_136 : decode cX6_findsExact 136 = .ok (.ldc2_w 120, 3) := by decide +kernel
theorem dX6_findsExact_139 : decode cX6_findsExact 139 = .ok (.lload 8, 2) := by decide +kernel
theorem dX6_findsExact_141 : decode cX6_findsExact 141 = .ok (.lmul, 1) := by decide +kernel
theorem dX6_findsExact_142 : decode cX6_findsExact 142 = .ok (.lsub, 1) := by decide +kernel
theorem dX6_findsExact_143 : decode cX6_findsExact 143 = .ok (.goto 19, 3) := by decide +kernel
theorem dX6_findsExact_146 : decode cX6_findsExact 146 = .ok (.iload_n 3, 1) := by decide +kernel
theorem dX6_findsExact_147 : decode cX6_findsExact 147 = .ok (.iconst 5, 1) := by decide +kernel
theorem dX6_findsExact_148 : decode cX6_findsExact 148 = .ok (.if_icmp .ne 12, 3) := by decide +kernel
theorem dX6_findsExact_151 : decode cX6_findsExact 151 = .ok (.ldc2_w 118, 3) := by decide +kernel
theorem dX6_findsExact_154 : decode cX6_findsExact 154 = .ok (.lload 4, 2) := by decide +kernel
theorem dX6_findsExact_156 : decode cX6_findsExact 156 = .ok (.lsub, 1) := by decide +kernel
theorem dX6_findsExact_157 : decode cX6_findsExact 157 = .ok (.goto 5, 3) := by decide +kernel
theorem dX6_findsExact_160 : decode cX6_findsExact 160 = .ok (.lload 4, 2) := by decide +kernel
theorem dX6_findsExact_162 : decode cX6_findsExact 162 = .ok (.lstore 12, 2) := by decide +kernel
theorem dX6_findsExact_164 : decode cX6_findsExact 164 = .ok (.iload_n 3, 1) := by decide +kernel
theorem dX6_findsExact_165 : decode cX6_findsExact 165 = .ok (.ifCond .ne 17, 3) := by decide +kernel
theorem dX6_findsExact_168 : decode cX6_findsExact 168 = .ok (.aload_n 0, 1) := by decide +kernel
theorem dX6_findsExact_169 : decode cX6_findsExact 169 = .ok (.iload_n 2, 1) := by decide +kernel
theorem dX6_findsExact_170 : decode cX6_findsExact 170 = .ok (.iconst 1, 1) := by decide +kernel
theorem dX6_findsExact_171 : decode cX6_findsExact 171 = .ok (.invokevirtual 100, 3) := by decide +kernel
theorem dX6_findsExact_174 : decode cX6_findsExact 174 = .ok (.i2l, 1) := by decide +kernel
theorem dX6_findsExact_175 : decode cX6_findsExact 175 = .ok (.ldc2_w 81, 3) := by decide +kernel
theorem dX6_findsExact_178 : decode cX6_findsExact 178 = .ok (.lmul, 1) := by decide +kernel
theorem dX6_findsExact_179 : decode cX6_findsExact 179 = .ok (.goto 32, 3) := by decide +kernel
theorem dX6_findsExact_182 : decode cX6_findsExact 182 = .ok (.iload_n 3, 1) := by decide +kernel
theorem dX6_findsExact_183 : decode cX6_findsExact 183 = .ok (.iconst 4, 1) := by decide +kernel
theorem dX6_findsExact_184 : decode cX6_findsExact 184 = .ok (.if_icmp .ne 25, 3) := by decide +kernel
theorem dX6_findsExact_187 : decode cX6_findsExact 187 = .ok (.lload 4, 2) := by decide +kernel
theorem dX6_findsExact_189 : decode cX6_findsExact 189 = .ok (.lload 10, 2) := by decide +kernel
theorem dX6_findsExact_191 : decode cX6_findsExact 191 = .ok (.lmul, 1) := by decide +kernel
theorem dX6_findsExact_192 : decode cX6_findsExact 192 = .ok (.lload 6, 2) := by decide +kernel
theorem dX6_findsExact_194 : decode cX6_findsExact 194 = .ok (.ldc2_w 118, 3) := by decide +kernel
theorem dX6_findsExact_197 : decode cX6_findsExact 197 = .ok (.lload 10, 2) := by decide +kernel
theorem dX6_findsExact_199 : decode cX6_findsExact 199 = .ok (.lsub, 1) := by decide +kernel
theorem dX6_findsExact_200 : decode cX6_findsExact 200 = .ok (.lmul, 1) := by decide +kernel
theorem dX6_findsExact_201 : decode cX6_findsExact 201 = .ok (.ladd, 1) := by decide +kernel
theorem dX6_findsExact_202 : decode cX6_findsExact 202 = .ok (.ldc2_w 118, 3) := by decide +kernel
theorem dX6_findsExact_205 : decode cX6_findsExact 205 = .ok (.ldiv, 1) := by decide +kernel
theorem dX6_findsExact_206 : decode cX6_findsExact 206 = .ok (.goto 5, 3) := by decide +kernel
theorem dX6_findsExact_209 : decode cX6_findsExact 209 = .ok (.lload 12, 2) := by decide +kernel
theorem dX6_findsExact_211 : decode cX6_findsExact 211 = .ok (.lstore 12, 2) := by decide +kernel
theorem dX6_findsExact_213 : decode cX6_findsExact 213 = .ok (.aload_n 0, 1) := by decide +kernel
theorem dX6_findsExact_214 : decode cX6_findsExact 214 = .ok (.getfield 32, 3) := by decide +kernel
theorem dX6_findsExact_217 : decode cX6_findsExact 217 = .ok (.iload_n 2, 1) := by decide +kernel
theorem dX6_findsExact_218 : decode cX6_findsExact 218 = .ok (.lload 12, 2) := by decide +kernel
theorem dX6_findsExact_220 : decode cX6_findsExact 220 = .ok (.l2i, 1) := by decide +kernel
theorem dX6_findsExact_221 : decode cX6_findsExact 221 = .ok (.iastore, 1) := by decide +kernel
theorem dX6_findsExact_222 : decode cX6_findsExact 222 = .ok (.iinc 2 1, 3) := by decide +kernel
theorem dX6_findsExact_225 : decode cX6_findsExact 225 = .ok (.goto (-223), 3) := by decide +kernel
theorem dX6_findsExact_228 : decode cX6_findsExact 228 = .ok (.return_, 1) := by decide +kernel
theorem dX6_apart_0 : decode cX6_apart 0 = .ok (.iload_n 0, 1) := by decide +kernel
theorem dX6_apart_1 : decode cX6_apart 1 = .ok (.iload_n 1, 1) := by decide +kernel
theorem dX6_apart_2 : decode cX6_apart 2 = .ok (.if_icmp .ge 9, 3) := by decide +kernel
theorem dX6_apart_5 : decode cX6_apart 5 = .ok (.iload_n 1, 1) := by decide +kernel
theorem dX6_apart_6 : decode cX6_apart 6 = .ok (.iload_n 0, 1) := by decide +kernel
theorem dX6_apart_7 : decode cX6_apart 7 = .ok (.isub, 1) := by decide +kernel
theorem dX6_apart_8 : decode cX6_apart 8 = .ok (.goto 6, 3) := by decide +kernel
theorem dX6_apart_11 : decode cX6_apart 11 = .ok (.iload_n 0, 1) := by decide +kernel
theorem dX6_apart_12 : decode cX6_apart 12 = .ok (.iload_n 1, 1) := by decide +kernel
theorem dX6_apart_13 : decode cX6_apart 13 = .ok (.isub, 1) := by decide +kernel
theorem dX6_apart_14 : decode cX6_apart 14 = .ok (.ireturn, 1) := by decide +kernel
theorem dX6_errorBy_0 : decode cX6_errorBy 0 = .ok (.iload_n 2, 1) := by decide +kernel
theorem dX6_errorBy_1 : decode cX6_errorBy 1 = .ok (.i2l, 1) := by decide +kernel
theorem dX6_errorBy_2 : decode cX6_errorBy 2 = .ok (.ldc2_w 118, 3) := by decide +kernel
theorem dX6_errorBy_5 : decode cX6_errorBy 5 = .ok (.lmul, 1) := by decide +kernel
theorem dX6_errorBy_6 : decode cX6_errorBy 6 = .ok (.iload_n 3, 1) := by decide +kernel
theorem dX6_errorBy_7 : decode cX6_errorBy 7 = .ok (.i2l, 1) := by decide +kernel
theorem dX6_errorBy_8 : decode cX6_errorBy 8 = .ok (.ldiv, 1) := by decide +kernel
theorem dX6_errorBy_9 : decode cX6_errorBy 9 = .ok (.l2i, 1) := by decide +kernel
theorem dX6_errorBy_10 : decode cX6_errorBy 10 = .ok (.aload_n 0, 1) := by decide +kernel
theorem dX6_errorBy_11 : decode cX6_errorBy 11 = .ok (.getfield 32, 3) := by decide +kernel
theorem dX6_errorBy_14 : decode cX6_errorBy 14 = .ok (.iload_n 1, 1) := by decide +kernel
theorem dX6_errorBy_15 : decode cX6_errorBy 15 = .ok (.iaload, 1) := by decide +kernel
theorem dX6_errorBy_16 : decode cX6_errorBy 16 = .ok (.invokestatic 122, 3) := by decide +kernel
theorem dX6_errorBy_19 : decode cX6_errorBy 19 = .ok (.ireturn, 1) := by decide +kernel
theorem dX6_errorOf_0 : decode cX6_errorOf 0 = .ok (.aload_n 0, 1) := by decide +kernel
theorem dX6_errorOf_1 : decode cX6_errorOf 1 = .ok (.iload_n 1, 1) := by decide +kernel
theorem dX6_errorOf_2 : decode cX6_errorOf 2 = .ok (.iload_n 2, 1) := by decide +kernel
theorem dX6_errorOf_3 : decode cX6_errorOf 3 = .ok (.invokevirtual 125, 3) := by decide +kernel
theorem dX6_errorOf_6 : decode cX6_errorOf 6 = .ok (.aload_n 0, 1) := by decide +kernel
theorem dX6_errorOf_7 : decode cX6_errorOf 7 = .ok (.iload_n 1, 1) := by decide +kernel
theorem dX6_errorOf_8 : decode cX6_errorOf 8 = .ok (.invokevirtual 129, 3) := by decide +kernel
theorem dX6_errorOf_11 : decode cX6_errorOf 11 = .ok (.aload_n 0, 1) := by decide +kernel
theorem dX6_errorOf_12 : decode cX6_errorOf 12 = .ok (.iload_n 1, 1) := by decide +kernel
theorem dX6_errorOf_13 : decode cX6_errorOf 13 = .ok (.aload_n 0, 1) := by decide +kernel
theorem dX6_errorOf_14 : decode cX6_errorOf 14 = .ok (.iload_n 1, 1) := by decide +kernel
theorem dX6_errorOf_15 : decode cX6_errorOf 15 = .ok (.iload_n 2, 1) := by decide +kernel
theorem dX6_errorOf_16 : decode cX6_errorOf 16 = .ok (.invokevirtual 133, 3) := by decide +kernel
theorem dX6_errorOf_19 : decode cX6_errorOf 19 = .ok (.iload_n 2, 1) := by decide +kernel
theorem dX6_errorOf_20 : decode cX6_errorOf 20 = .ok (.invokevirtual 136, 3) := by decide +kernel
theorem dX6_errorOf_23 : decode cX6_errorOf 23 = .ok (.ireturn, 1) := by decide +kernel
theorem dX6_type_0 : decode cX6_type 0 = .ok (.aload_n 0, 1) := by decide +kernel
theorem dX6_type_1 : decode cX6_type 1 = .ok (.getfield 140, 3) := by decide +kernel
theorem dX6_type_4 : decode cX6_type 4 = .ok (.bipush 80, 2) := by decide +kernel
theorem dX6_type_6 : decode cX6_type 6 = .ok (.if_icmp .ne 6, 3) := by decide +kernel
theorem dX6_type_9 : decode cX6_type 9 = .ok (.ldc 69, 2) := by decide +kernel
theorem dX6_type_11 : decode cX6_type 11 = .ok (.ireturn, 1) := by decide +kernel
theorem dX6_type_12 : decode cX6_type 12 = .ok (.aload_n 0, 1) := by decide +kernel
theorem dX6_type_13 : decode cX6_type 13 = .ok (.getfield 35, 3) := by decide +kernel
theorem dX6_type_16 : decode cX6_type 16 = .ok (.aload_n 0, 1) := by decide +kernel
theorem dX6_type_17 : decode cX6_type 17 = .ok (.getfield 140, 3) := by decide +kernel
theorem dX6_type_20 : decode cX6_type 20 = .ok (.iload_n 1, 1) := by decide +kernel
theorem dX6_type_21 : decode cX6_type 21 = .ok (.iastore, 1) := by decide +kernel
theorem dX6_type_22 : decode cX6_type 22 = .ok (.aload_n 0, 1) := by decide +kernel
theorem dX6_type_23 : decode cX6_type 23 = .ok (.dup, 1) := by decide +kernel
theorem dX6_type_24 : decode cX6_type 24 = .ok (.getfield 140, 3) := by decide +kernel
theorem dX6_type_27 : decode cX6_type 27 = .ok (.iconst 1, 1) := by decide +kernel
theorem dX6_type_28 : decode cX6_type 28 = .ok (.iadd, 1) := by decide +kernel
theorem dX6_type_29 : decode cX6_type 29 = .ok (.putfield 140, 3) := by decide +kernel
theorem dX6_type_32 : decode cX6_type 32 = .ok (.aload_n 0, 1) := by decide +kernel
theorem dX6_type_33 : decode cX6_type 33 = .ok (.getfield 140, 3) := by decide +kernel
theorem dX6_type_36 : decode cX6_type 36 = .ok (.ireturn, 1) := by decide +kernel
theorem dX6_clearText_0 : decode cX6_clearText 0 = .ok (.aload_n 0, 1) := by decide +kernel
theorem dX6_clearText_1 : decode cX6_clearText 1 = .ok (.getfield 140, 3) := by decide +kernel
theorem dX6_clearText_4 : decode cX6_clearText 4 = .ok (.istore_n 1, 1) := by decide +kernel
theorem dX6_clearText_5 : decode cX6_clearText 5 = .ok (.aload_n 0, 1) := by decide +kernel
theorem dX6_clearText_6 : decode cX6_clearText 6 = .ok (.iconst 0, 1) := by decide +kernel
theorem dX6_clearText_7 : decode cX6_clearText 7 = .ok (.putfield 140, 3) := by decide +kernel
theorem dX6_clearText_10 : decode cX6_clearText 10 = .ok (.iload_n 1, 1) := by decide +kernel
theorem dX6_clearText_11 : decode cX6_clearText 11 = .ok (.ireturn, 1) := by decide +kernel
theorem dX6_sizeOf_0 : decode cX6_sizeOf 0 = .ok (.iconst 0, 1) := by decide +kernel
theorem dX6_sizeOf_1 : decode cX6_sizeOf 1 = .ok (.istore_n 2, 1) := by decide +kernel
theorem dX6_sizeOf_2 : decode cX6_sizeOf 2 = .ok (.lload_n 0, 1) := by decide +kernel
theorem dX6_sizeOf_3 : decode cX6_sizeOf 3 = .ok (.lstore_n 3, 1) := by decide +kernel
theorem dX6_sizeOf_4 : decode cX6_sizeOf 4 = .ok (.lload_n 3, 1) := by decide +kernel
theorem dX6_sizeOf_5 : decode cX6_sizeOf 5 = .ok (.lconst 0, 1) := by decide +kernel
theorem dX6_sizeOf_6 : decode cX6_sizeOf 6 = .ok (.lcmp, 1) := by decide +kernel
theorem dX6_sizeOf_7 : decode cX6_sizeOf 7 = .ok (.ifCond .le 14, 3) := by decide +kernel
theorem dX6_sizeOf_10 : decode cX6_sizeOf 10 = .ok (.iinc 2 1, 3) := by decide +kernel
theorem dX6_sizeOf_13 : decode cX6_sizeOf 13 = .ok (.lload_n 3, 1) := by decide +kernel
theorem dX6_sizeOf_14 : decode cX6_sizeOf 14 = .ok (.bipush 8, 2) := by decide +kernel
theorem dX6_sizeOf_16 : decode cX6_sizeOf 16 = .ok (.lshr, 1) := by decide +kernel
theorem dX6_sizeOf_17 : decode cX6_sizeOf 17 = .ok (.lstore_n 3, 1) := by decide +kernel
theorem dX6_sizeOf_18 : decode cX6_sizeOf 18 = .ok (.goto (-14), 3) := by decide +kernel
theorem dX6_sizeOf_21 : decode cX6_sizeOf 21 = .ok (.iload_n 2, 1) := by decide +kernel
theorem dX6_sizeOf_22 : decode cX6_sizeOf 22 = .ok (.ireturn, 1) := by decide +kernel
theorem dX6_likeness_0 : decode cX6_likeness 0 = .ok (.lload_n 1, 1) := by decide +kernel
theorem dX6_likeness_1 : decode cX6_likeness 1 = .ok (.invokestatic 143, 3) := by decide +kernel
theorem dX6_likeness_4 : decode cX6_likeness 4 = .ok (.istore_n 3, 1) := by decide +kernel
theorem dX6_likeness_5 : decode cX6_likeness 5 = .ok (.iconst 0, 1) := by decide +kernel
theorem dX6_likeness_6 : decode cX6_likeness 6 = .ok (.istore 4, 2) := by decide +kernel
theorem dX6_likeness_8 : decode cX6_likeness 8 = .ok (.iload 4, 2) := by decide +kernel
theorem dX6_likeness_10 : decode cX6_likeness 10 = .ok (.iload_n 3, 1) := by decide +kernel
theorem dX6_likeness_11 : decode cX6_likeness 11 = .ok (.if_icmp .ge 55, 3) := by decide +kernel
theorem dX6_likeness_14 : decode cX6_likeness 14 = .ok (.aload_n 0, 1) := by decide +kernel
theorem dX6_likeness_15 : decode cX6_likeness 15 = .ok (.getfield 147, 3) := by decide +kernel
theorem dX6_likeness_18 : decode cX6_likeness 18 = .ok (.iload 4, 2) := by decide +kernel
theorem dX6_likeness_20 : decode cX6_likeness 20 = .ok (.iadd, 1) := by decide +kernel
theorem dX6_likeness_21 : decode cX6_likeness 21 = .ok (.aload_n 0, 1) := by decide +kernel
theorem dX6_likeness_22 : decode cX6_likeness 22 = .ok (.getfield 140, 3) := by decide +kernel
theorem dX6_likeness_25 : decode cX6_likeness 25 = .ok (.if_icmp .ge 41, 3) := by decide +kernel
theorem dX6_likeness_28 : decode cX6_likeness 28 = .ok (.aload_n 0, 1) := by decide +kernel
theorem dX6_likeness_29 : decode cX6_likeness 29 = .ok (.getfield 35, 3) := by decide +kernel
theorem dX6_likeness_32 : decode cX6_likeness 32 = .ok (.aload_n 0, 1) := by decide +kernel
theorem dX6_likeness_33 : decode cX6_likeness 33 = .ok (.getfield 147, 3) := by decide +kernel
theorem dX6_likeness_36 : decode cX6_likeness 36 = .ok (.iload 4, 2) := by decide +kernel
theorem dX6_likeness_38 : decode cX6_likeness 38 = .ok (.iadd, 1) := by decide +kernel
theorem dX6_likeness_39 : decode cX6_likeness 39 = .ok (.iaload, 1) := by decide +kernel
theorem dX6_likeness_40 : decode cX6_likeness 40 = .ok (.i2l, 1) := by decide +kernel
theorem dX6_likeness_41 : decode cX6_likeness 41 = .ok (.lload_n 1, 1) := by decide +kernel
theorem dX6_likeness_42 : decode cX6_likeness 42 = .ok (.bipush 8, 2) := by decide +kernel
theorem dX6_likeness_44 : decode cX6_likeness 44 = .ok (.iload_n 3, 1) := by decide +kernel
theorem dX6_likeness_45 : decode cX6_likeness 45 = .ok (.iconst 1, 1) := by decide +kernel
theorem dX6_likeness_46 : decode cX6_likeness 46 = .ok (.isub, 1) := by decide +kernel
theorem dX6_likeness_47 : decode cX6_likeness 47 = .ok (.iload 4, 2) := by decide +kernel
theorem dX6_likeness_49 : decode cX6_likeness 49 = .ok (.isub, 1) := by decide +kernel
theorem dX6_likeness_50 : decode cX6_likeness 50 = .ok (.imul, 1) := by decide +kernel
theorem dX6_likeness_51 : decode cX6_likeness 51 = .ok (.lshr, 1) := by decide +kernel
theorem dX6_likeness_52 : decode cX6_likeness 52 = .ok (.ldc2_w 83, 3) := by decide +kernel
theorem dX6_likeness_55 : decode cX6_likeness 55 = .ok (.land, 1) := by decide +kernel
theorem dX6_likeness_56 : decode cX6_likeness 56 = .ok (.lcmp, 1) := by decide +kernel
theorem dX6_likeness_57 : decode cX6_likeness 57 = .ok (.ifCond .ne 9, 3) := by decide +kernel
theorem dX6_likeness_60 : decode cX6_likeness 60 = .ok (.iinc 4 1, 3) := by decide +kernel
theorem dX6_likeness_63 : decode cX6_likeness 63 = .ok (.goto (-55), 3) := by decide +kernel
theorem dX6_likeness_66 : decode cX6_likeness 66 = .ok (.iload 4, 2) := by decide +kernel
theorem dX6_likeness_68 : decode cX6_likeness 68 = .ok (.ireturn, 1) := by decide +kernel
theorem dX6_readsWord_0 : decode cX6_readsWord 0 = .ok (.iconst 0, 1) := by decide +kernel
theorem dX6_readsWord_1 : decode cX6_readsWord 1 = .ok (.istore_n 1, 1) := by decide +kernel
theorem dX6_readsWord_2 : decode cX6_readsWord 2 = .ok (.ldc 85, 2) := by decide +kernel
theorem dX6_readsWord_4 : decode cX6_readsWord 4 = .ok (.istore_n 2, 1) := by decide +kernel
theorem dX6_readsWord_5 : decode cX6_readsWord 5 = .ok (.iconst 0, 1) := by decide +kernel
theorem dX6_readsWord_6 : decode cX6_readsWord 6 = .ok (.istore_n 3, 1) := by decide +kernel
theorem dX6_readsWord_7 : decode cX6_readsWord 7 = .ok (.iload_n 3, 1) := by decide +kernel
theorem dX6_readsWord_8 : decode cX6_readsWord 8 = .ok (.bipush 7, 2) := by decide +kernel
theorem dX6_readsWord_10 : decode cX6_readsWord 10 = .ok (.if_icmp .ge 54, 3) := by decide +kernel
theorem dX6_readsWord_13 : decode cX6_readsWord 13 = .ok (.aload_n 0, 1) := by decide +kernel
theorem dX6_readsWord_14 : decode cX6_readsWord 14 = .ok (.aload_n 0, 1) := by decide +kernel
theorem dX6_readsWord_15 : decode cX6_readsWord 15 = .ok (.getfield 22, 3) := by decide +kernel
theorem dX6_readsWord_18 : decode cX6_readsWord 18 = .ok (.iload_n 3, 1) := by decide +kernel
theorem dX6_readsWord_19 : decode cX6_readsWord 19 = .ok (.laload, 1) := by decide +kernel
theorem dX6_readsWord_20 : decode cX6_readsWord 20 = .ok (.invokevirtual 150, 3) := by decide +kernel
theorem dX6_readsWord_23 : decode cX6_readsWord 23 = .ok (.istore 4, 2) := by decide +kernel
theorem dX6_readsWord_25 : decode cX6_readsWord 25 = .ok (.iload 4, 2) := by decide +kernel
theorem dX6_readsWord_27 : decode cX6_readsWord 27 = .ok (.iload_n 1, 1) := by decide +kernel
theorem dX6_readsWord_28 : decode cX6_readsWord 28 = .ok (.if_icmp .le 8, 3) := by decide +kernel
theorem dX6_readsWord_31 : decode cX6_readsWord 31 = .ok (.iload 4, 2) := by decide +kernel
theorem dX6_readsWord_33 : decode cX6_readsWord 33 = .ok (.goto 4, 3) := by decide +kernel
theorem dX6_readsWord_36 : decode cX6_readsWord 36 = .ok (.iload_n 1, 1) := by decide +kernel
theorem dX6_readsWord_37 : decode cX6_readsWord 37 = .ok (.istore_n 1, 1) := by decide +kernel
theorem dX6_readsWord_38 : decode cX6_readsWord 38 = .ok (.iload 4, 2) := by decide +kernel
theorem dX6_readsWord_40 : decode cX6_readsWord 40 = .ok (.aload_n 0, 1) := by decide +kernel
theorem dX6_readsWord_41 : decode cX6_readsWord 41 = .ok (.getfield 22, 3) := by decide +kernel
theorem dX6_readsWord_44 : decode cX6_readsWord 44 = .ok (.iload_n 3, 1) := by decide +kernel
theorem dX6_readsWord_45 : decode cX6_readsWord 45 = .ok (.laload, 1) := by decide +kernel
theorem dX6_readsWord_46 : decode cX6_readsWord 46 = .ok (.invokestatic 143, 3) := by decide +kernel
theorem dX6_readsWord_49 : decode cX6_readsWord 49 = .ok (.if_icmp .ne 7, 3) := by decide +kernel
theorem dX6_readsWord_52 : decode cX6_readsWord 52 = .ok (.iload_n 3, 1) := by decide +kernel
theorem dX6_readsWord_53 : decode cX6_readsWord 53 = .ok (.goto 4, 3) := by decide +kernel
theorem dX6_readsWord_56 : decode cX6_readsWord 56 = .ok (.iload_n 2, 1) := by decide +kernel
theorem dX6_readsWord_57 : decode cX6_readsWord 57 = .ok (.istore_n 2, 1) := by decide +kernel
theorem dX6_readsWord_58 : decode cX6_readsWord 58 = .ok (.iinc 3 1, 3) := by decide +kernel
theorem dX6_readsWord_61 : decode cX6_readsWord 61 = .ok (.goto (-54), 3) := by decide +kernel
theorem dX6_readsWord_64 : decode cX6_readsWord 64 = .ok (.aload_n 0, 1) := by decide +kernel
theorem dX6_readsWord_65 : decode cX6_readsWord 65 = .ok (.dup, 1) := by decide +kernel
theorem dX6_readsWord_66 : decode cX6_readsWord 66 = .ok (.getfield 147, 3) := by decide +kernel
theorem dX6_readsWord_69 : decode cX6_readsWord 69 = .ok (.iload_n 1, 1) := by decide +kernel
theorem dX6_readsWord_70 : decode cX6_readsWord 70 = .ok (.iadd, 1) := by decide +kernel
theorem dX6_readsWord_71 : decode cX6_readsWord 71 = .ok (.putfield 147, 3) := by decide +kernel
theorem dX6_readsWord_74 : decode cX6_readsWord 74 = .ok (.iload_n 2, 1) := by decide +kernel
theorem dX6_readsWord_75 : decode cX6_readsWord 75 = .ok (.ireturn, 1) := by decide +kernel
theorem dX6_isHere_0 : decode cX6_isHere 0 = .ok (.aload_n 0, 1) := by decide +kernel
theorem dX6_isHere_1 : decode cX6_isHere 1 = .ok (.getfield 147, 3) := by decide +kernel
theorem dX6_isHere_4 : decode cX6_isHere 4 = .ok (.aload_n 0, 1) := by decide +kernel
theorem dX6_isHere_5 : decode cX6_isHere 5 = .ok (.getfield 140, 3) := by decide +kernel
theorem dX6_isHere_8 : decode cX6_isHere 8 = .ok (.if_icmp .ge 27, 3) := by decide +kernel
theorem dX6_isHere_11 : decode cX6_isHere 11 = .ok (.aload_n 0, 1) := by decide +kernel
theorem dX6_isHere_12 : decode cX6_isHere 12 = .ok (.getfield 35, 3) := by decide +kernel
theorem dX6_isHere_15 : decode cX6_isHere 15 = .ok (.aload_n 0, 1) := by decide +kernel
theorem dX6_isHere_16 : decode cX6_isHere 16 = .ok (.getfield 147, 3) := by decide +kernel
theorem dX6_isHere_19 : decode cX6_isHere 19 = .ok (.iaload, 1) := by decide +kernel
theorem dX6_isHere_20 : decode cX6_isHere 20 = .ok (.i2l, 1) := by decide +kernel
theorem dX6_isHere_21 : decode cX6_isHere 21 = .ok (.iload_n 1, 1) := by decide +kernel
theorem dX6_isHere_22 : decode cX6_isHere 22 = .ok (.i2l, 1) := by decide +kernel
theorem dX6_isHere_23 : decode cX6_isHere 23 = .ok (.iload_n 2, 1) := by decide +kernel
theorem dX6_isHere_24 : decode cX6_isHere 24 = .ok (.i2l, 1) := by decide +kernel
theorem dX6_isHere_25 : decode cX6_isHere 25 = .ok (.invokestatic 65, 3) := by decide +kernel
theorem dX6_isHere_28 : decode cX6_isHere 28 = .ok (.ifCond .eq 7, 3) := by decide +kernel
theorem dX6_isHere_31 : decode cX6_isHere 31 = .ok (.iconst 1, 1) := by decide +kernel
theorem dX6_isHere_32 : decode cX6_isHere 32 = .ok (.goto 4, 3) := by decide +kernel
theorem dX6_isHere_35 : decode cX6_isHere 35 = .ok (.iconst 0, 1) := by decide +kernel
theorem dX6_isHere_36 : decode cX6_isHere 36 = .ok (.ireturn, 1) := by decide +kernel
theorem dX6_takes_0 : decode cX6_takes 0 = .ok (.aload_n 0, 1) := by decide +kernel
theorem dX6_takes_1 : decode cX6_takes 1 = .ok (.iload_n 1, 1) := by decide +kernel
theorem dX6_takes_2 : decode cX6_takes 2 = .ok (.iload_n 1, 1) := by decide +kernel
theorem dX6_takes_3 : decode cX6_takes 3 = .ok (.invokevirtual 153, 3) := by decide +kernel
theorem dX6_takes_6 : decode cX6_takes 6 = .ok (.istore_n 2, 1) := by decide +kernel
theorem dX6_takes_7 : decode cX6_takes 7 = .ok (.aload_n 0, 1) := by decide +kernel
theorem dX6_takes_8 : decode cX6_takes 8 = .ok (.dup, 1) := by decide +kernel
theorem dX6_takes_9 : decode cX6_takes 9 = .ok (.getfield 147, 3) := by decide +kernel
theorem dX6_takes_12 : decode cX6_takes 12 = .ok (.iload_n 2, 1) := by decide +kernel
theorem dX6_takes_13 : decode cX6_takes 13 = .ok (.ifCond .eq 7, 3) := by decide +kernel
theorem dX6_takes_16 : decode cX6_takes 16 = .ok (.iconst 1, 1) := by decide +kernel
theorem dX6_takes_17 : decode cX6_takes 17 = .ok (.goto 4, 3) := by decide +kernel
theorem dX6_takes_20 : decode cX6_takes 20 = .ok (.iconst 0, 1) := by decide +kernel
theorem dX6_takes_21 : decode cX6_takes 21 = .ok (.iadd, 1) := by decide +kernel
theorem dX6_takes_22 : decode cX6_takes 22 = .ok (.putfield 147, 3) := by decide +kernel
theorem dX6_takes_25 : decode cX6_takes 25 = .ok (.iload_n 2, 1) := by decide +kernel
theorem dX6_takes_26 : decode cX6_takes 26 = .ok (.ireturn, 1) := by decide +kernel
theorem dX6_readsNumber_0 : decode cX6_readsNumber 0 = .ok (.aload_n 0, 1) := by decide +kernel
theorem dX6_readsNumber_1 : decode cX6_readsNumber 1 = .ok (.bipush 32, 2) := by decide +kernel
theorem dX6_readsNumber_3 : decode cX6_readsNumber 3 = .ok (.invokevirtual 157, 3) := by decide +kernel
theorem dX6_readsNumber_6 : decode cX6_readsNumber 6 = .ok (.ifCond .eq 32, 3) := by decide +kernel
theorem dX6_readsNumber_9 : decode cX6_readsNumber 9 = .ok (.aload_n 0, 1) := by decide +kernel
theorem dX6_readsNumber_10 : decode cX6_readsNumber 10 = .ok (.bipush 48, 2) := by decide +kernel
theorem dX6_readsNumber_12 : decode cX6_readsNumber 12 = .ok (.iload_n 1, 1) := by decide +kernel
theorem dX6_readsNumber_13 : decode cX6_readsNumber 13 = .ok (.iadd, 1) := by decide +kernel
theorem dX6_readsNumber_14 : decode cX6_readsNumber 14 = .ok (.bipush 57, 2) := by decide +kernel
theorem dX6_readsNumber_16 : decode cX6_readsNumber 16 = .ok (.invokevirtual 153, 3) := by decide +kernel
theorem dX6_readsNumber_19 : decode cX6_readsNumber 19 = .ok (.ifCond .eq 19, 3) := by decide +kernel
theorem dX6_readsNumber_22 : decode cX6_readsNumber 22 = .ok (.aload_n 0, 1) := by decide +kernel
theorem dX6_readsNumber_23 : decode cX6_readsNumber 23 = .ok (.getfield 35, 3) := by decide +kernel
theorem dX6_readsNumber_26 : decode cX6_readsNumber 26 = .ok (.aload_n 0, 1) := by decide +kernel
theorem dX6_readsNumber_27 : decode cX6_readsNumber 27 = .ok (.getfield 147, 3) := by decide +kernel
theorem dX6_readsNumber_30 : decode cX6_readsNumber 30 = .ok (.iaload, 1) := by decide +kernel
theorem dX6_readsNumber_31 : decode cX6_readsNumber 31 = .ok (.bipush 48, 2) := by decide +kernel
theorem dX6_readsNumber_33 : decode cX6_readsNumber 33 = .ok (.isub, 1) := by decide +kernel
theorem dX6_readsNumber_34 : decode cX6_readsNumber 34 = .ok (.iload_n 2, 1) := by decide +kernel
theorem dX6_readsNumber_35 : decode cX6_readsNumber 35 = .ok (.if_icmp .le 5, 3) := by decide +kernel
theorem dX6_readsNumber_38 : decode cX6_readsNumber 38 = .ok (.iconst 0, 1) := by decide +kernel
theorem dX6_readsNumber_39 : decode cX6_readsNumber 39 = .ok (.ireturn, 1) := by decide +kernel
theorem dX6_readsNumber_40 : decode cX6_readsNumber 40 = .ok (.aload_n 0, 1) := by decide +kernel
theorem dX6_readsNumber_41 : decode cX6_readsNumber 41 = .ok (.aload_n 0, 1) := by decide +kernel
theorem dX6_readsNumber_42 : decode cX6_readsNumber 42 = .ok (.getfield 35, 3) := by decide +kernel
theorem dX6_readsNumber_45 : decode cX6_readsNumber 45 = .ok (.aload_n 0, 1) := by decide +kernel
theorem dX6_readsNumber_46 : decode cX6_readsNumber 46 = .ok (.getfield 147, 3) := by decide +kernel
theorem dX6_readsNumber_49 : decode cX6_readsNumber 49 = .ok (.iaload, 1) := by decide +kernel
theorem dX6_readsNumber_50 : decode cX6_readsNumber 50 = .ok (.bipush 48, 2) := by decide +kernel
theorem dX6_readsNumber_52 : decode cX6_readsNumber 52 = .ok (.isub, 1) := by decide +kernel
theorem dX6_readsNumber_53 : decode cX6_readsNumber 53 = .ok (.putfield 160, 3) := by decide +kernel
theorem dX6_readsNumber_56 : decode cX6_readsNumber 56 = .ok (.aload_n 0, 1) := by decide +kernel
theorem dX6_readsNumber_57 : decode cX6_readsNumber 57 = .ok (.dup, 1) := by decide +kernel
theorem dX6_readsNumber_58 : decode cX6_readsNumber 58 = .ok (.getfield 147, 3) := by decide +kernel
theorem dX6_readsNumber_61 : decode cX6_readsNumber 61 = .ok (.iconst 1, 1) := by decide +kernel
theorem dX6_readsNumber_62 : decode cX6_readsNumber 62 = .ok (.iadd, 1) := by decide +kernel
theorem dX6_readsNumber_63 : decode cX6_readsNumber 63 = .ok (.putfield 147, 3) := by decide +kernel
theorem dX6_readsNumber_66 : decode cX6_readsNumber 66 = .ok (.aload_n 0, 1) := by decide +kernel
theorem dX6_readsNumber_67 : decode cX6_readsNumber 67 = .ok (.getfield 160, 3) := by decide +kernel
theorem dX6_readsNumber_70 : decode cX6_readsNumber 70 = .ok (.ifCond .le 75, 3) := by decide +kernel
theorem dX6_readsNumber_73 : decode cX6_readsNumber 73 = .ok (.aload_n 0, 1) := by decide +kernel
theorem dX6_readsNumber_74 : decode cX6_readsNumber 74 = .ok (.bipush 48, 2) := by decide +kernel
theorem dX6_readsNumber_76 : decode cX6_readsNumber 76 = .ok (.bipush 57, 2) := by decide +kernel
theorem dX6_readsNumber_78 : decode cX6_readsNumber 78 = .ok (.invokevirtual 153, 3) := by decide +kernel
theorem dX6_readsNumber_81 : decode cX6_readsNumber 81 = .ok (.ifCond .eq 64, 3) := by decide +kernel
theorem dX6_readsNumber_84 : decode cX6_readsNumber 84 = .ok (.bipush 10, 2) := by decide +kernel
theorem dX6_readsNumber_86 : decode cX6_readsNumber 86 = .ok (.aload_n 0, 1) := by decide +kernel
theorem dX6_readsNumber_87 : decode cX6_readsNumber 87 = .ok (.getfield 160, 3) := by decide +kernel
theorem dX6_readsNumber_90 : decode cX6_readsNumber 90 = .ok (.imul, 1) := by decide +kernel
theorem dX6_readsNumber_91 : decode cX6_readsNumber 91 = .ok (.aload_n 0, 1) := by decide +kernel
theorem dX6_readsNumber_92 : decode cX6_readsNumber 92 = .ok (.getfield 35, 3) := by decide +kernel
theorem dX6_readsNumber_95 : decode cX6_readsNumber 95 = .ok (.aload_n 0, 1) := by decide +kernel
theorem dX6_readsNumber_96 : decode cX6_readsNumber 96 = .ok (.getfield 147, 3) := by decide +kernel
theorem dX6_readsNumber_99 : decode cX6_readsNumber 99 = .ok (.iaload, 1) := by decide +kernel
theorem dX6_readsNumber_100 : decode cX6_readsNumber 100 = .ok (.iadd, 1) := by decide +kernel
theorem dX6_readsNumber_101 : decode cX6_readsNumber 101 = .ok (.bipush 48, 2) := by decide +kernel
theorem dX6_readsNumber_103 : decode cX6_readsNumber 103 = .ok (.isub, 1) := by decide +kernel
theorem dX6_readsNumber_104 : decode cX6_readsNumber 104 = .ok (.iload_n 2, 1) := by decide +kernel
theorem dX6_readsNumber_105 : decode cX6_readsNumber 105 = .ok (.if_icmp .gt 40, 3) := by decide +kernel
theorem dX6_readsNumber_108 : decode cX6_readsNumber 108 = .ok (.aload_n 0, 1) := by decide +kernel
theorem dX6_readsNumber_109 : decode cX6_readsNumber 109 = .ok (.bipush 10, 2) := by decide +kernel
theorem dX6_readsNumber_111 : decode cX6_readsNumber 111 = .ok (.aload_n 0, 1) := by decide +kernel
theorem dX6_readsNumber_112 : decode cX6_readsNumber 112 = .ok (.getfield 160, 3) := by decide +kernel
theorem dX6_readsNumber_115 : decode cX6_readsNumber 115 = .ok (.imul, 1) := by decide +kernel
theorem dX6_readsNumber_116 : decode cX6_readsNumber 116 = .ok (.aload_n 0, 1) := by decide +kernel
theorem dX6_readsNumber_117 : decode cX6_readsNumber 117 = .ok (.getfield 35, 3) := by decide +kernel
theorem dX6_readsNumber_120 : decode cX6_readsNumber 120 = .ok (.aload_n 0, 1) := by decide +kernel
theorem dX6_readsNumber_121 : decode cX6_readsNumber 121 = .ok (.getfield 147, 3) := by decide +kernel
theorem dX6_readsNumber_124 : decode cX6_readsNumber 124 = .ok (.iaload, 1) := by decide +kernel
theorem dX6_readsNumber_125 : decode cX6_readsNumber 125 = .ok (.iadd, 1) := by decide +kernel
theorem dX6_readsNumber_126 : decode cX6_readsNumber 126 = .ok (.bipush 48, 2) := by decide +kernel
theorem dX6_readsNumber_128 : decode cX6_readsNumber 128 = .ok (.isub, 1) := by decide +kernel
theorem dX6_readsNumber_129 : decode cX6_readsNumber 129 = .ok (.putfield 160, 3) := by decide +kernel
theorem dX6_readsNumber_132 : decode cX6_readsNumber 132 = .ok (.aload_n 0, 1) := by decide +kernel
theorem dX6_readsNumber_133 : decode cX6_readsNumber 133 = .ok (.dup, 1) := by decide +kernel
theorem dX6_readsNumber_134 : decode cX6_readsNumber 134 = .ok (.getfield 147, 3) := by decide +kernel
theorem dX6_readsNumber_137 : decode cX6_readsNumber 137 = .ok (.iconst 1, 1) := by decide +kernel
theorem dX6_readsNumber_138 : decode cX6_readsNumber 138 = .ok (.iadd, 1) := by decide +kernel
theorem dX6_readsNumber_139 : decode cX6_readsNumber 139 = .ok (.putfield 147, 3) := by decide +kernel
theorem dX6_readsNumber_142 : decode cX6_readsNumber 142 = .ok (.goto (-76), 3) := by decide +kernel
theorem dX6_readsNumber_145 : decode cX6_readsNumber 145 = .ok (.iconst 1, 1) := by decide +kernel
theorem dX6_readsNumber_146 : decode cX6_readsNumber 146 = .ok (.ireturn, 1) := by decide +kernel
theorem dX6_readsPart_0 : decode cX6_readsPart 0 = .ok (.iload_n 1, 1) := by decide +kernel
theorem dX6_readsPart_1 : decode cX6_readsPart 1 = .ok (.bipush 6, 2) := by decide +kernel
theorem dX6_readsPart_3 : decode cX6_readsPart 3 = .ok (.if_icmp .ne 12, 3) := by decide +kernel
theorem dX6_readsPart_6 : decode cX6_readsPart 6 = .ok (.iload_n 2, 1) := by decide +kernel
theorem dX6_readsPart_7 : decode cX6_readsPart 7 = .ok (.iconst 2, 1) := by decide +kernel
theorem dX6_readsPart_8 : decode cX6_readsPart 8 = .ok (.if_icmp .ne 7, 3) := by decide +kernel
theorem dX6_readsPart_11 : decode cX6_readsPart 11 = .ok (.iconst 1, 1) := by decide +kernel
theorem dX6_readsPart_12 : decode cX6_readsPart 12 = .ok (.goto 4, 3) := by decide +kernel
theorem dX6_readsPart_15 : decode cX6_readsPart 15 = .ok (.iconst 0, 1) := by decide +kernel
theorem dX6_readsPart_16 : decode cX6_readsPart 16 = .ok (.istore_n 3, 1) := by decide +kernel
theorem dX6_readsPart_17 : decode cX6_readsPart 17 = .ok (.iload_n 1, 1) := by decide +kernel
theorem dX6_readsPart_18 : decode cX6_readsPart 18 = .ok (.ifCond .ne 12, 3) := by decide +kernel
theorem dX6_readsPart_21 : decode cX6_readsPart 21 = .ok (.iload_n 2, 1) := by decide +kernel
theorem dX6_readsPart_22 : decode cX6_readsPart 22 = .ok (.iconst 2, 1) := by decide +kernel
theorem dX6_readsPart_23 : decode cX6_readsPart 23 = .ok (.if_icmp .ne 7, 3) := by decide +kernel
theorem dX6_readsPart_26 : decode cX6_readsPart 26 = .ok (.iconst 1, 1) := by decide +kernel
theorem dX6_readsPart_27 : decode cX6_readsPart 27 = .ok (.goto 4, 3) := by decide +kernel
theorem dX6_readsPart_30 : decode cX6_readsPart 30 = .ok (.iconst 0, 1) := by decide +kernel
theorem dX6_readsPart_31 : decode cX6_readsPart 31 = .ok (.istore 4, 2) := by decide +kernel
theorem dX6_readsPart_33 : decode cX6_readsPart 33 = .ok (.aload_n 0, 1) := by decide +kernel
theorem dX6_readsPart_34 : decode cX6_readsPart 34 = .ok (.iload_n 3, 1) := by decide +kernel
theorem dX6_readsPart_35 : decode cX6_readsPart 35 = .ok (.ifCond .ne 8, 3) := by decide +kernel
theorem dX6_readsPart_38 : decode cX6_readsPart 38 = .ok (.iload 4, 2) := by decide +kernel
theorem dX6_readsPart_40 : decode cX6_readsPart 40 = .ok (.ifCond .eq 7, 3) := by decide +kernel
theorem dX6_readsPart_43 : decode cX6_readsPart 43 = .ok (.iconst 1, 1) := by decide +kernel
theorem dX6_readsPart_44 : decode cX6_readsPart 44 = .ok (.goto 4, 3) := by decide +kernel
theorem dX6_readsPart_47 : decode cX6_readsPart 47 = .ok (.iconst 0, 1) := by decide +kernel
theorem dX6_readsPart_48 : decode cX6_readsPart 48 = .ok (.iload_n 3, 1) := by decide +kernel
theorem dX6_readsPart_49 : decode cX6_readsPart 49 = .ok (.ifCond .eq 8, 3) := by decide +kernel
theorem dX6_readsPart_52 : decode cX6_readsPart 52 = .ok (.bipush 60, 2) := by decide +kernel
theorem dX6_readsPart_54 : decode cX6_readsPart 54 = .ok (.goto 26, 3) := by decide +kernel
theorem dX6_readsPart_57 : decode cX6_readsPart 57 = .ok (.iload 4, 2) := by decide +kernel
theorem dX6_readsPart_59 : decode cX6_readsPart 59 = .ok (.ifCond .eq 9, 3) := by decide +kernel
theorem dX6_readsPart_62 : decode cX6_readsPart 62 = .ok (.sipush 255, 3) := by decide +kernel
theorem dX6_readsPart_65 : decode cX6_readsPart 65 = .ok (.goto 15, 3) := by decide +kernel
theorem dX6_readsPart_68 : decode cX6_readsPart 68 = .ok (.iload_n 1, 1) := by decide +kernel
theorem dX6_readsPart_69 : decode cX6_readsPart 69 = .ok (.ifCond .ne 9, 3) := by decide +kernel
theorem dX6_readsPart_72 : decode cX6_readsPart 72 = .ok (.sipush 256, 3) := by decide +kernel
theorem dX6_readsPart_75 : decode cX6_readsPart 75 = .ok (.goto 5, 3) := by decide +kernel
theorem dX6_readsPart_78 : decode cX6_readsPart 78 = .ok (.bipush 15, 2) := by decide +kernel
theorem dX6_readsPart_80 : decode cX6_readsPart 80 = .ok (.invokevirtual 163, 3) := by decide +kernel
theorem dX6_readsPart_83 : decode cX6_readsPart 83 = .ok (.istore 5, 2) := by decide +kernel
theorem dX6_readsPart_85 : decode cX6_readsPart 85 = .ok (.aload_n 0, 1) := by decide +kernel
theorem dX6_readsPart_86 : decode cX6_readsPart 86 = .ok (.getfield 38, 3) := by decide +kernel
theorem dX6_readsPart_89 : decode cX6_readsPart 89 = .ok (.iconst 4, 1) := by decide +kernel
theorem dX6_readsPart_90 : decode cX6_readsPart 90 = .ok (.aload_n 0, 1) := by decide +kernel
theorem dX6_readsPart_91 : decode cX6_readsPart 91 = .ok (.getfield 166, 3) := by decide +kernel
theorem dX6_readsPart_94 : decode cX6_readsPart 94 = .ok (.imul, 1) := by decide +kernel
theorem dX6_readsPart_95 : decode cX6_readsPart 95 = .ok (.iload_n 2, 1) := by decide +kernel
theorem dX6_readsPart_96 : decode cX6_readsPart 96 = .ok (.iadd, 1) := by decide +kernel
theorem dX6_readsPart_97 : decode cX6_readsPart 97 = .ok (.aload_n 0, 1) := by decide +kernel
theorem dX6_readsPart_98 : decode cX6_readsPart 98 = .ok (.getfield 160, 3) := by decide +kernel
theorem dX6_readsPart_101 : decode cX6_readsPart 101 = .ok (.iastore, 1) := by decide +kernel
theorem dX6_readsPart_102 : decode cX6_readsPart 102 = .ok (.iload 5, 2) := by decide +kernel
theorem dX6_readsPart_104 : decode cX6_readsPart 104 = .ok (.ireturn, 1) := by decide +kernel
theorem dX6_readsLine_0 : decode cX6_readsLine 0 = .ok (.aload_n 0, 1) := by decide +kernel
theorem dX6_readsLine_1 : decode cX6_readsLine 1 = .ok (.invokevirtual 169, 3) := by decide +kernel
theorem dX6_readsLine_4 : decode cX6_readsLine 4 = .ok (.istore_n 1, 1) := by decide +kernel
theorem dX6_readsLine_5 : decode cX6_readsLine 5 = .ok (.iload_n 1, 1) := by decide +kernel
theorem dX6_readsLine_6 : decode cX6_readsLine 6 = .ok (.ldc 85, 2) := by decide +kernel
theorem dX6_readsLine_8 : decode cX6_readsLine 8 = .ok (.if_icmp .ne 5, 3) := by decide +kernel
theorem dX6_readsLine_11 : decode cX6_readsLine 11 = .ok (.iconst 0, 1) := by decide +kernel
theorem dX6_readsLine_12 : decode cX6_readsLine 12 = .ok (.ireturn, 1) := by decide +kernel
theorem dX6_readsLine_13 : decode cX6_readsLine 13 = .ok (.iload_n 1, 1) := by decide +kernel
theorem dX6_readsLine_14 : decode cX6_readsLine 14 = .ok (.iconst 4, 1) := by decide +kernel
theorem dX6_readsLine_15 : decode cX6_readsLine 15 = .ok (.if_icmp .ne 7, 3) := by decide +kernel
theorem dX6_readsLine_18 : decode cX6_readsLine 18 = .ok (.iconst 3, 1) := by decide +kernel
theorem dX6_readsLine_19 : decode cX6_readsLine 19 = .ok (.goto 13, 3) := by decide +kernel
theorem dX6_readsLine_22 : decode cX6_readsLine 22 = .ok (.iload_n 1, 1) := by decide +kernel
theorem dX6_readsLine_23 : decode cX6_readsLine 23 = .ok (.iconst 5, 1) := by decide +kernel
theorem dX6_readsLine_24 : decode cX6_readsLine 24 = .ok (.if_icmp .ne 7, 3) := by decide +kernel
theorem dX6_readsLine_27 : decode cX6_readsLine 27 = .ok (.iconst 1, 1) := by decide +kernel
theorem dX6_readsLine_28 : decode cX6_readsLine 28 = .ok (.goto 4, 3) := by decide +kernel
theorem dX6_readsLine_31 : decode cX6_readsLine 31 = .ok (.iconst 2, 1) := by decide +kernel
theorem dX6_readsLine_32 : decode cX6_readsLine 32 = .ok (.istore_n 2, 1) := by decide +kernel
theorem dX6_readsLine_33 : decode cX6_readsLine 33 = .ok (.aload_n 0, 1) := by decide +kernel
theorem dX6_readsLine_34 : decode cX6_readsLine 34 = .ok (.getfield 38, 3) := by decide +kernel
theorem dX6_readsLine_37 : decode cX6_readsLine 37 = .ok (.iconst 4, 1) := by decide +kernel
theorem dX6_readsLine_38 : decode cX6_readsLine 38 = .ok (.aload_n 0, 1) := by decide +kernel
theorem dX6_readsLine_39 : decode cX6_readsLine 39 = .ok (.getfield 166, 3) := by decide +kernel
theorem dX6_readsLine_42 : decode cX6_readsLine 42 = .ok (.imul, 1) := by decide +kernel
theorem dX6_readsLine_43 : decode cX6_readsLine 43 = .ok (.iload_n 1, 1) := by decide +kernel
theorem dX6_readsLine_44 : decode cX6_readsLine 44 = .ok (.iastore, 1) := by decide +kernel
theorem dX6_readsLine_45 : decode cX6_readsLine 45 = .ok (.iconst 1, 1) := by decide +kernel
theorem dX6_readsLine_46 : decode cX6_readsLine 46 = .ok (.istore_n 3, 1) := by decide +kernel
theorem dX6_readsLine_47 : decode cX6_readsLine 47 = .ok (.iload_n 3, 1) := by decide +kernel
theorem dX6_readsLine_48 : decode cX6_readsLine 48 = .ok (.iconst 4, 1) := by decide +kernel
theorem dX6_readsLine_49 : decode cX6_readsLine 49 = .ok (.if_icmp .ge 24, 3) := by decide +kernel
theorem dX6_readsLine_52 : decode cX6_readsLine 52 = .ok (.aload_n 0, 1) := by decide +kernel
theorem dX6_readsLine_53 : decode cX6_readsLine 53 = .ok (.getfield 38, 3) := by decide +kernel
theorem dX6_readsLine_56 : decode cX6_readsLine 56 = .ok (.iconst 4, 1) := by decide +kernel
theorem dX6_readsLine_57 : decode cX6_readsLine 57 = .ok (.aload_n 0, 1) := by decide +kernel
theorem dX6_readsLine_58 : decode cX6_readsLine 58 = .ok (.getfield 166, 3) := by decide +kernel
theorem dX6_readsLine_61 : decode cX6_readsLine 61 = .ok (.imul, 1) := by decide +kernel
theorem dX6_readsLine_62 : decode cX6_readsLine 62 = .ok (.iload_n 3, 1) := by decide +kernel
theorem dX6_readsLine_63 : decode cX6_readsLine 63 = .ok (.iadd, 1) := by decide +kernel
theorem dX6_readsLine_64 : decode cX6_readsLine 64 = .ok (.ldc 85, 2) := by decide +kernel
theorem dX6_readsLine_66 : decode cX6_readsLine 66 = .ok (.iastore, 1) := by decide +kernel
theorem dX6_readsLine_67 : decode cX6_readsLine 67 = .ok (.iinc 3 1, 3) := by decide +kernel
theorem dX6_readsLine_70 : decode cX6_readsLine 70 = .ok (.goto (-23), 3) := by decide +kernel
theorem dX6_readsLine_73 : decode cX6_readsLine 73 = .ok (.iconst 1, 1) := by decide +kernel
theorem dX6_readsLine_74 : decode cX6_readsLine 74 = .ok (.istore_n 3, 1) := by decide +kernel
theorem dX6_readsLine_75 : decode cX6_readsLine 75 = .ok (.iload_n 3, 1) := by decide +kernel
theorem dX6_readsLine_76 : decode cX6_readsLine 76 = .ok (.iload_n 2, 1) := by decide +kernel
theorem dX6_readsLine_77 : decode cX6_readsLine 77 = .ok (.if_icmp .gt 20, 3) := by decide +kernel
theorem dX6_readsLine_80 : decode cX6_readsLine 80 = .ok (.aload_n 0, 1) := by decide +kernel
theorem dX6_readsLine_81 : decode cX6_readsLine 81 = .ok (.iload_n 1, 1) := by decide +kernel
theorem dX6_readsLine_82 : decode cX6_readsLine 82 = .ok (.iload_n 3, 1) := by decide +kernel
theorem dX6_readsLine_83 : decode cX6_readsLine 83 = .ok (.invokevirtual 173, 3) := by decide +kernel
theorem dX6_readsLine_86 : decode cX6_readsLine 86 = .ok (.ifCond .ne 5, 3) := by decide +kernel
theorem dX6_readsLine_89 : decode cX6_readsLine 89 = .ok (.iconst 0, 1) := by decide +kernel
theorem dX6_readsLine_90 : decode cX6_readsLine 90 = .ok (.ireturn, 1) := by decide +kernel
theorem dX6_readsLine_91 : decode cX6_readsLine 91 = .ok (.iinc 3 1, 3) := by decide +kernel
theorem dX6_readsLine_94 : decode cX6_readsLine 94 = .ok (.goto (-19), 3) := by decide +kernel
theorem dX6_readsLine_97 : decode cX6_readsLine 97 = .ok (.aload_n 0, 1) := by decide +kernel
theorem dX6_readsLine_98 : decode cX6_readsLine 98 = .ok (.dup, 1) := by decide +kernel
theorem dX6_readsLine_99 : decode cX6_readsLine 99 = .ok (.getfield 166, 3) := by decide +kernel
theorem dX6_readsLine_102 : decode cX6_readsLine 102 = .ok (.iconst 1, 1) := by decide +kernel
theorem dX6_readsLine_103 : decode cX6_readsLine 103 = .ok (.iadd, 1) := by decide +kernel
theorem dX6_readsLine_104 : decode cX6_readsLine 104 = .ok (.putfield 166, 3) := by decide +kernel
theorem dX6_readsLine_107 : decode cX6_readsLine 107 = .ok (.iconst 1, 1) := by decide +kernel
theorem dX6_readsLine_108 : decode cX6_readsLine 108 = .ok (.ireturn, 1) := by decide +kernel
theorem dX6_fault_0 : decode cX6_fault 0 = .ok (.aload_n 0, 1) := by decide +kernel
theorem dX6_fault_1 : decode cX6_fault 1 = .ok (.iconst 0, 1) := by decide +kernel
theorem dX6_fault_2 : decode cX6_fault 2 = .ok (.putfield 147, 3) := by decide +kernel
theorem dX6_fault_5 : decode cX6_fault 5 = .ok (.aload_n 0, 1) := by decide +kernel
theorem dX6_fault_6 : decode cX6_fault 6 = .ok (.iconst 0, 1) := by decide +kernel
theorem dX6_fault_7 : decode cX6_fault 7 = .ok (.putfield 166, 3) := by decide +kernel
theorem dX6_fault_10 : decode cX6_fault 10 = .ok (.iconst 1, 1) := by decide +kernel
theorem dX6_fault_11 : decode cX6_fault 11 = .ok (.istore_n 1, 1) := by decide +kernel
theorem dX6_fault_12 : decode cX6_fault 12 = .ok (.iload_n 1, 1) := by decide +kernel
theorem dX6_fault_13 : decode cX6_fault 13 = .ok (.ifCond .eq 25, 3) := by decide +kernel
theorem dX6_fault_16 : decode cX6_fault 16 = .ok (.aload_n 0, 1) := by decide +kernel
theorem dX6_fault_17 : decode cX6_fault 17 = .ok (.invokevirtual 176, 3) := by decide +kernel
theorem dX6_fault_20 : decode cX6_fault 20 = .ok (.ifCond .ne 8, 3) := by decide +kernel
theorem dX6_fault_23 : decode cX6_fault 23 = .ok (.aload_n 0, 1) := by decide +kernel
theorem dX6_fault_24 : decode cX6_fault 24 = .ok (.getfield 147, 3) := by decide +kernel
theorem dX6_fault_27 : decode cX6_fault 27 = .ok (.ireturn, 1) := by decide +kernel
theorem dX6_fault_28 : decode cX6_fault 28 = .ok (.aload_n 0, 1) := by decide +kernel
theorem dX6_fault_29 : decode cX6_fault 29 = .ok (.bipush 59, 2) := by decide +kernel
theorem dX6_fault_31 : decode cX6_fault 31 = .ok (.invokevirtual 157, 3) := by decide +kernel
theorem dX6_fault_34 : decode cX6_fault 34 = .ok (.istore_n 1, 1) := by decide +kernel
theorem dX6_fault_35 : decode cX6_fault 35 = .ok (.goto (-23), 3) := by decide +kernel
theorem dX6_fault_38 : decode cX6_fault 38 = .ok (.aload_n 0, 1) := by decide +kernel
theorem dX6_fault_39 : decode cX6_fault 39 = .ok (.getfield 147, 3) := by decide +kernel
theorem dX6_fault_42 : decode cX6_fault 42 = .ok (.aload_n 0, 1) := by decide +kernel
theorem dX6_fault_43 : decode cX6_fault 43 = .ok (.getfield 140, 3) := by decide +kernel
theorem dX6_fault_46 : decode cX6_fault 46 = .ok (.if_icmp .ne 8, 3) := by decide +kernel
theorem dX6_fault_49 : decode cX6_fault 49 = .ok (.ldc 85, 2) := by decide +kernel
theorem dX6_fault_51 : decode cX6_fault 51 = .ok (.goto 7, 3) := by decide +kernel
theorem dX6_fault_54 : decode cX6_fault 54 = .ok (.aload_n 0, 1) := by decide +kernel
theorem dX6_fault_55 : decode cX6_fault 55 = .ok (.getfield 147, 3) := by decide +kernel
theorem dX6_fault_58 : decode cX6_fault 58 = .ok (.ireturn, 1) := by decide +kernel
theorem dX6_isAhead_0 : decode cX6_isAhead 0 = .ok (.iconst 1, 1) := by decide +kernel
theorem dX6_isAhead_1 : decode cX6_isAhead 1 = .ok (.istore_n 2, 1) := by decide +kernel
theorem dX6_isAhead_2 : decode cX6_isAhead 2 = .ok (.iconst 1, 1) := by decide +kernel
theorem dX6_isAhead_3 : decode cX6_isAhead 3 = .ok (.istore_n 3, 1) := by decide +kernel
theorem dX6_isAhead_4 : decode cX6_isAhead 4 = .ok (.iload_n 3, 1) := by decide +kernel
theorem dX6_isAhead_5 : decode cX6_isAhead 5 = .ok (.aload_n 0, 1) := by decide +kernel
theorem dX6_isAhead_6 : decode cX6_isAhead 6 = .ok (.getfield 38, 3) := by decide +kernel
theorem dX6_isAhead_9 : decode cX6_isAhead 9 = .ok (.iconst 4, 1) := by decide +kernel
theorem dX6_isAhead_10 : decode cX6_isAhead 10 = .ok (.iload_n 1, 1) := by decide +kernel
theorem dX6_isAhead_11 : decode cX6_isAhead 11 = .ok (.imul, 1) := by decide +kernel
theorem dX6_isAhead_12 : decode cX6_isAhead 12 = .ok (.iaload, 1) := by decide +kernel
theorem dX6_isAhead_13 : decode cX6_isAhead 13 = .ok (.invokestatic 180, 3) := by decide +kernel
theorem dX6_isAhead_16 : decode cX6_isAhead 16 = .ok (.if_icmp .gt 40, 3) := by decide +kernel
theorem dX6_isAhead_19 : decode cX6_isAhead 19 = .ok (.iload_n 2, 1) := by decide +kernel
theorem dX6_isAhead_20 : decode cX6_isAhead 20 = .ok (.ifCond .eq 28, 3) := by decide +kernel
theorem dX6_isAhead_23 : decode cX6_isAhead 23 = .ok (.aload_n 0, 1) := by decide +kernel
theorem dX6_isAhead_24 : decode cX6_isAhead 24 = .ok (.getfield 38, 3) := by decide +kernel
theorem dX6_isAhead_27 : decode cX6_isAhead 27 = .ok (.iconst 4, 1) := by decide +kernel
theorem dX6_isAhead_28 : decode cX6_isAhead 28 = .ok (.iload_n 1, 1) := by decide +kernel
theorem dX6_isAhead_29 : decode cX6_isAhead 29 = .ok (.imul, 1) := by decide +kernel
theorem dX6_isAhead_30 : decode cX6_isAhead 30 = .ok (.iload_n 3, 1) := by decide +kernel
theorem dX6_isAhead_31 : decode cX6_isAhead 31 = .ok (.iadd, 1) := by decide +kernel
theorem dX6_isAhead_32 : decode cX6_isAhead 32 = .ok (.iaload, 1) := by decide +kernel
theorem dX6_isAhead_33 : decode cX6_isAhead 33 = .ok (.aload_n 0, 1) := by decide +kernel
theorem dX6_isAhead_34 : decode cX6_isAhead 34 = .ok (.getfield 7, 3) := by decide +kernel
theorem dX6_isAhead_37 : decode cX6_isAhead 37 = .ok (.iconst 0, 1) := by decide +kernel
theorem dX6_isAhead_38 : decode cX6_isAhead 38 = .ok (.iaload, 1) := by decide +kernel
theorem dX6_isAhead_39 : decode cX6_isAhead 39 = .ok (.iload_n 1, 1) := by decide +kernel
theorem dX6_isAhead_40 : decode cX6_isAhead 40 = .ok (.iadd, 1) := by decide +kernel
theorem dX6_isAhead_41 : decode cX6_isAhead 41 = .ok (.if_icmp .ge 7, 3) := by decide +kernel
theorem dX6_isAhead_44 : decode cX6_isAhead 44 = .ok (.iconst 1, 1) := by decide +kernel
theorem dX6_isAhead_45 : decode cX6_isAhead 45 = .ok (.goto 4, 3) := by decide +kernel
theorem dX6_isAhead_48 : decode cX6_isAhead 48 = .ok (.iconst 0, 1) := by decide +kernel
theorem dX6_isAhead_49 : decode cX6_isAhead 49 = .ok (.istore_n 2, 1) := by decide +kernel
theorem dX6_isAhead_50 : decode cX6_isAhead 50 = .ok (.iinc 3 1, 3) := by decide +kernel
theorem dX6_isAhead_53 : decode cX6_isAhead 53 = .ok (.goto (-49), 3) := by decide +kernel
theorem dX6_isAhead_56 : decode cX6_isAhead 56 = .ok (.iload_n 2, 1) := by decide +kernel
theorem dX6_isAhead_57 : decode cX6_isAhead 57 = .ok (.ireturn, 1) := by decide +kernel
theorem dX6_readCircuit_0 : decode cX6_readCircuit 0 = .ok (.aload_n 0, 1) := by decide +kernel
theorem dX6_readCircuit_1 : decode cX6_readCircuit 1 = .ok (.invokevirtual 183, 3) := by decide +kernel
theorem dX6_readCircuit_4 : decode cX6_readCircuit 4 = .ok (.istore_n 1, 1) := by decide +kernel
theorem dX6_readCircuit_5 : decode cX6_readCircuit 5 = .ok (.iload_n 1, 1) := by decide +kernel
theorem dX6_readCircuit_6 : decode cX6_readCircuit 6 = .ok (.ldc 85, 2) := by decide +kernel
theorem dX6_readCircuit_8 : decode cX6_readCircuit 8 = .ok (.if_icmp .eq 8, 3) := by decide +kernel
theorem dX6_readCircuit_11 : decode cX6_readCircuit 11 = .ok (.ldc 186, 2) := by decide +kernel
theorem dX6_readCircuit_13 : decode cX6_readCircuit 13 = .ok (.iload_n 1, 1) := by decide +kernel
theorem dX6_readCircuit_14 : decode cX6_readCircuit 14 = .ok (.isub, 1) := by decide +kernel
theorem dX6_readCircuit_15 : decode cX6_readCircuit 15 = .ok (.ireturn, 1) := by decide +kernel
theorem dX6_readCircuit_16 : decode cX6_readCircuit 16 = .ok (.iconst 0, 1) := by decide +kernel
theorem dX6_readCircuit_17 : decode cX6_readCircuit 17 = .ok (.istore_n 2, 1) := by decide +kernel
theorem dX6_readCircuit_18 : decode cX6_readCircuit 18 = .ok (.iload_n 2, 1) := by decide +kernel
theorem dX6_readCircuit_19 : decode cX6_readCircuit 19 = .ok (.aload_n 0, 1) := by decide +kernel
theorem dX6_readCircuit_20 : decode cX6_readCircuit 20 = .ok (.getfield 166, 3) := by decide +kernel
theorem dX6_readCircuit_23 : decode cX6_readCircuit 23 = .ok (.if_icmp .ge 20, 3) := by decide +kernel
theorem dX6_readCircuit_26 : decode cX6_readCircuit 26 = .ok (.aload_n 0, 1) := by decide +kernel
theorem dX6_readCircuit_27 : decode cX6_readCircuit 27 = .ok (.iload_n 2, 1) := by decide +kernel
theorem dX6_readCircuit_28 : decode cX6_readCircuit 28 = .ok (.invokevirtual 187, 3) := by decide +kernel
theorem dX6_readCircuit_31 : decode cX6_readCircuit 31 = .ok (.ifCond .ne 6, 3) := by decide +kernel
theorem dX6_readCircuit_34 : decode cX6_readCircuit 34 = .ok (.ldc 95, 2) := by decide +kernel
theorem dX6_readCircuit_36 : decode cX6_readCircuit 36 = .ok (.ireturn, 1) := by decide +kernel
theorem dX6_readCircuit_37 : decode cX6_readCircuit 37 = .ok (.iinc 2 1, 3) := by decide +kernel
theorem dX6_readCircuit_40 : decode cX6_readCircuit 40 = .ok (.goto (-22), 3) := by decide +kernel
theorem dX6_readCircuit_43 : decode cX6_readCircuit 43 = .ok (.aload_n 0, 1) := by decide +kernel
theorem dX6_readCircuit_44 : decode cX6_readCircuit 44 = .ok (.getfield 7, 3) := by decide +kernel
theorem dX6_readCircuit_47 : decode cX6_readCircuit 47 = .ok (.iconst 0, 1) := by decide +kernel
theorem dX6_readCircuit_48 : decode cX6_readCircuit 48 = .ok (.iaload, 1) := by decide +kernel
theorem dX6_readCircuit_49 : decode cX6_readCircuit 49 = .ok (.aload_n 0, 1) := by decide +kernel
theorem dX6_readCircuit_50 : decode cX6_readCircuit 50 = .ok (.getfield 166, 3) := by decide +kernel
theorem dX6_readCircuit_53 : decode cX6_readCircuit 53 = .ok (.iadd, 1) := by decide +kernel
theorem dX6_readCircuit_54 : decode cX6_readCircuit 54 = .ok (.bipush 16, 2) := by decide +kernel
theorem dX6_readCircuit_56 : decode cX6_readCircuit 56 = .ok (.if_icmp .le 6, 3) := by decide +kernel
theorem dX6_readCircuit_59 : decode cX6_readCircuit 59 = .ok (.ldc 69, 2) := by decide +kernel
theorem dX6_readCircuit_61 : decode cX6_readCircuit 61 = .ok (.ireturn, 1) := by decide +kernel
theorem dX6_readCircuit_62 : decode cX6_readCircuit 62 = .ok (.aload_n 0, 1) := by decide +kernel
theorem dX6_readCircuit_63 : decode cX6_readCircuit 63 = .ok (.invokevirtual 70, 3) := by decide +kernel
theorem dX6_readCircuit_66 : decode cX6_readCircuit 66 = .ok (.iconst 0, 1) := by decide +kernel
theorem dX6_readCircuit_67 : decode cX6_readCircuit 67 = .ok (.istore_n 2, 1) := by decide +kernel
theorem dX6_readCircuit_68 : decode cX6_readCircuit 68 = .ok (.iload_n 2, 1) := by decide +kernel
theorem dX6_readCircuit_69 : decode cX6_readCircuit 69 = .ok (.iconst 4, 1) := by decide +kernel
theorem dX6_readCircuit_70 : decode cX6_readCircuit 70 = .ok (.aload_n 0, 1) := by decide +kernel
theorem dX6_readCircuit_71 : decode cX6_readCircuit 71 = .ok (.getfield 166, 3) := by decide +kernel
theorem dX6_readCircuit_74 : decode cX6_readCircuit 74 = .ok (.imul, 1) := by decide +kernel
theorem dX6_readCircuit_75 : decode cX6_readCircuit 75 = .ok (.if_icmp .ge 43, 3) := by decide +kernel
theorem dX6_readCircuit_78 : decode cX6_readCircuit 78 = .ok (.aload_n 0, 1) := by decide +kernel
theorem dX6_readCircuit_79 : decode cX6_readCircuit 79 = .ok (.aload_n 0, 1) := by decide +kernel
theorem dX6_readCircuit_80 : decode cX6_readCircuit 80 = .ok (.getfield 38, 3) := by decide +kernel
theorem dX6_readCircuit_83 : decode cX6_readCircuit 83 = .ok (.iload_n 2, 1) := by decide +kernel
theorem dX6_readCircuit_84 : decode cX6_readCircuit 84 = .ok (.iaload, 1) := by decide +kernel
theorem dX6_readCircuit_85 : decode cX6_readCircuit 85 = .ok (.aload_n 0, 1) := by decide +kernel
theorem dX6_readCircuit_86 : decode cX6_readCircuit 86 = .ok (.getfield 38, 3) := by decide +kernel
theorem dX6_readCircuit_89 : decode cX6_readCircuit 89 = .ok (.iload_n 2, 1) := by decide +kernel
theorem dX6_readCircuit_90 : decode cX6_readCircuit 90 = .ok (.iconst 1, 1) := by decide +kernel
theorem dX6_readCircuit_91 : decode cX6_readCircuit 91 = .ok (.iadd, 1) := by decide +kernel
theorem dX6_readCircuit_92 : decode cX6_readCircuit 92 = .ok (.iaload, 1) := by decide +kernel
theorem dX6_readCircuit_93 : decode cX6_readCircuit 93 = .ok (.aload_n 0, 1) := by decide +kernel
theorem dX6_readCircuit_94 : decode cX6_readCircuit 94 = .ok (.getfield 38, 3) := by decide +kernel
theorem dX6_readCircuit_97 : decode cX6_readCircuit 97 = .ok (.iload_n 2, 1) := by decide +kernel
theorem dX6_readCircuit_98 : decode cX6_readCircuit 98 = .ok (.iconst 2, 1) := by decide +kernel
theorem dX6_readCircuit_99 : decode cX6_readCircuit 99 = .ok (.iadd, 1) := by decide +kernel
theorem dX6_readCircuit_100 : decode cX6_readCircuit 100 = .ok (.iaload, 1) := by decide +kernel
theorem dX6_readCircuit_101 : decode cX6_readCircuit 101 = .ok (.aload_n 0, 1) := by decide +kernel
theorem dX6_readCircuit_102 : decode cX6_readCircuit 102 = .ok (.getfield 38, 3) := by decide +kernel
theorem dX6_readCircuit_105 : decode cX6_readCircuit 105 = .ok (.iload_n 2, 1) := by decide +kernel
theorem dX6_readCircuit_106 : decode cX6_readCircuit 106 = .ok (.iconst 3, 1) := by decide +kernel
theorem dX6_readCircuit_107 : decode cX6_readCircuit 107 = .ok (.iadd, 1) := by decide +kernel
theorem dX6_readCircuit_108 : decode cX6_readCircuit 108 = .ok (.iaload, 1) := by decide +kernel
theorem dX6_readCircuit_109 : decode cX6_readCircuit 109 = .ok (.invokevirtual 73, 3) := by decide +kernel
theorem dX6_readCircuit_112 : decode cX6_readCircuit 112 = .ok (.iinc 2 4, 3) := by decide +kernel
theorem dX6_readCircuit_115 : decode cX6_readCircuit 115 = .ok (.goto (-47), 3) := by decide +kernel
theorem dX6_readCircuit_118 : decode cX6_readCircuit 118 = .ok (.aload_n 0, 1) := by decide +kernel
theorem dX6_readCircuit_119 : decode cX6_readCircuit 119 = .ok (.aload_n 0, 1) := by decide +kernel
theorem dX6_readCircuit_120 : decode cX6_readCircuit 120 = .ok (.getfield 7, 3) := by decide +kernel
theorem dX6_readCircuit_123 : decode cX6_readCircuit 123 = .ok (.iconst 0, 1) := by decide +kernel
theorem dX6_readCircuit_124 : decode cX6_readCircuit 124 = .ok (.iaload, 1) := by decide +kernel
theorem dX6_readCircuit_125 : decode cX6_readCircuit 125 = .ok (.invokevirtual 77, 3) := by decide +kernel
theorem dX6_readCircuit_128 : decode cX6_readCircuit 128 = .ok (.ireturn, 1) := by decide +kernel
theorem dX6_undo_0 : decode cX6_undo 0 = .ok (.aload_n 0, 1) := by decide +kernel
theorem dX6_undo_1 : decode cX6_undo 1 = .ok (.getfield 61, 3) := by decide +kernel
theorem dX6_undo_4 : decode cX6_undo 4 = .ok (.ifCond .ne 6, 3) := by decide +kernel
theorem dX6_undo_7 : decode cX6_undo 7 = .ok (.ldc 85, 2) := by decide +kernel
theorem dX6_undo_9 : decode cX6_undo 9 = .ok (.ireturn, 1) := by decide +kernel
theorem dX6_undo_10 : decode cX6_undo 10 = .ok (.aload_n 0, 1) := by decide +kernel
theorem dX6_undo_11 : decode cX6_undo 11 = .ok (.dup, 1) := by decide +kernel
theorem dX6_undo_12 : decode cX6_undo 12 = .ok (.getfield 61, 3) := by decide +kernel
theorem dX6_undo_15 : decode cX6_undo 15 = .ok (.iconst 1, 1) := by decide +kernel
theorem dX6_undo_16 : decode cX6_undo 16 = .ok (.isub, 1) := by decide +kernel
theorem dX6_undo_17 : decode cX6_undo 17 = .ok (.putfield 61, 3) := by decide +kernel
theorem dX6_undo_20 : decode cX6_undo 20 = .ok (.iconst 0, 1) := by decide +kernel
theorem dX6_undo_21 : decode cX6_undo 21 = .ok (.istore_n 1, 1) := by decide +kernel
theorem dX6_undo_22 : decode cX6_undo 22 = .ok (.iload_n 1, 1) := by decide +kernel
theorem dX6_undo_23 : decode cX6_undo 23 = .ok (.bipush 66, 2) := by decide +kernel
theorem dX6_undo_25 : decode cX6_undo 25 = .ok (.if_icmp .ge 29, 3) := by decide +kernel
theorem dX6_undo_28 : decode cX6_undo 28 = .ok (.aload_n 0, 1) := by decide +kernel
theorem dX6_undo_29 : decode cX6_undo 29 = .ok (.getfield 7, 3) := by decide +kernel
theorem dX6_undo_32 : decode cX6_undo 32 = .ok (.iload_n 1, 1) := by decide +kernel
theorem dX6_undo_33 : decode cX6_undo 33 = .ok (.aload_n 0, 1) := by decide +kernel
theorem dX6_undo_34 : decode cX6_undo 34 = .ok (.getfield 16, 3) := by decide +kernel
theorem dX6_undo_37 : decode cX6_undo 37 = .ok (.bipush 66, 2) := by decide +kernel
theorem dX6_undo_39 : decode cX6_undo 39 = .ok (.aload_n 0, 1) := by decide +kernel
theorem dX6_undo_40 : decode cX6_undo 40 = .ok (.getfield 61, 3) := by decide +kernel
theorem dX6_undo_43 : decode cX6_undo 43 = .ok (.imul, 1) := by decide +kernel
theorem dX6_undo_44 : decode cX6_undo 44 = .ok (.iload_n 1, 1) := by decide +kernel
theorem dX6_undo_45 : decode cX6_undo 45 = .ok (.iadd, 1) := by decide +kernel
theorem dX6_undo_46 : decode cX6_undo 46 = .ok (.iaload, 1) := by decide +kernel
theorem dX6_undo_47 : decode cX6_undo 47 = .ok (.iastore, 1) := by decide +kernel
theorem dX6_undo_48 : decode cX6_undo 48 = .ok (.iinc 1 1, 3) := by decide +kernel
theorem dX6_undo_51 : decode cX6_undo 51 = .ok (.goto (-29), 3) := by decide +kernel
theorem dX6_undo_54 : decode cX6_undo 54 = .ok (.aload_n 0, 1) := by decide +kernel
theorem dX6_undo_55 : decode cX6_undo 55 = .ok (.getfield 61, 3) := by decide +kernel
theorem dX6_undo_58 : decode cX6_undo 58 = .ok (.ireturn, 1) := by decide +kernel
theorem dX6_keep_0 : decode cX6_keep 0 = .ok (.iconst 0, 1) := by decide +kernel
theorem dX6_keep_1 : decode cX6_keep 1 = .ok (.istore_n 1, 1) := by decide +kernel
theorem dX6_keep_2 : decode cX6_keep 2 = .ok (.iload_n 1, 1) := by decide +kernel
theorem dX6_keep_3 : decode cX6_keep 3 = .ok (.bipush 66, 2) := by decide +kernel
theorem dX6_keep_5 : decode cX6_keep 5 = .ok (.if_icmp .ge 21, 3) := by decide +kernel
theorem dX6_keep_8 : decode cX6_keep 8 = .ok (.aload_n 0, 1) := by decide +kernel
theorem dX6_keep_9 : decode cX6_keep 9 = .ok (.getfield 19, 3) := by decide +kernel
theorem dX6_keep_12 : decode cX6_keep 12 = .ok (.iload_n 1, 1) := by decide +kernel
theorem dX6_keep_13 : decode cX6_keep 13 = .ok (.aload_n 0, 1) := by decide +kernel
theorem dX6_keep_14 : decode cX6_keep 14 = .ok (.getfield 7, 3) := by decide +kernel
theorem dX6_keep_17 : decode cX6_keep 17 = .ok (.iload_n 1, 1) := by decide +kernel
theorem dX6_keep_18 : decode cX6_keep 18 = .ok (.iaload, 1) := by decide +kernel
theorem dX6_keep_19 : decode cX6_keep 19 = .ok (.iastore, 1) := by decide +kernel
theorem dX6_keep_20 : decode cX6_keep 20 = .ok (.iinc 1 1, 3) := by decide +kernel
theorem dX6_keep_23 : decode cX6_keep 23 = .ok (.goto (-21), 3) := by decide +kernel
theorem dX6_keep_26 : decode cX6_keep 26 = .ok (.aload_n 0, 1) := by decide +kernel
theorem dX6_keep_27 : decode cX6_keep 27 = .ok (.iconst 1, 1) := by decide +kernel
theorem dX6_keep_28 : decode cX6_keep 28 = .ok (.putfield 190, 3) := by decide +kernel
theorem dX6_keep_31 : decode cX6_keep 31 = .ok (.aload_n 0, 1) := by decide +kernel
theorem dX6_keep_32 : decode cX6_keep 32 = .ok (.getfield 7, 3) := by decide +kernel
theorem dX6_keep_35 : decode cX6_keep 35 = .ok (.iconst 0, 1) := by decide +kernel
theorem dX6_keep_36 : decode cX6_keep 36 = .ok (.iaload, 1) := by decide +kernel
theorem dX6_keep_37 : decode cX6_keep 37 = .ok (.ireturn, 1) := by decide +kernel
theorem dX6_restore_0 : decode cX6_restore 0 = .ok (.aload_n 0, 1) := by decide +kernel
theorem dX6_restore_1 : decode cX6_restore 1 = .ok (.getfield 190, 3) := by decide +kernel
theorem dX6_restore_4 : decode cX6_restore 4 = .ok (.ifCond .ne 6, 3) := by decide +kernel
theorem dX6_restore_7 : decode cX6_restore 7 = .ok (.ldc 85, 2) := by decide +kernel
theorem dX6_restore_9 : decode cX6_restore 9 = .ok (.ireturn, 1) := by decide +kernel
theorem dX6_restore_10 : decode cX6_restore 10 = .ok (.aload_n 0, 1) := by decide +kernel
theorem dX6_restore_11 : decode cX6_restore 11 = .ok (.invokevirtual 70, 3) := by decide +kernel
theorem dX6_restore_14 : decode cX6_restore 14 = .ok (.iconst 0, 1) := by decide +kernel
theorem dX6_restore_15 : decode cX6_restore 15 = .ok (.istore_n 1, 1) := by decide +kernel
theorem dX6_restore_16 : decode cX6_restore 16 = .ok (.iload_n 1, 1) := by decide +kernel
theorem dX6_restore_17 : decode cX6_restore 17 = .ok (.bipush 66, 2) := by decide +kernel
theorem dX6_restore_19 : decode cX6_restore 19 = .ok (.if_icmp .ge 21, 3) := by decide +kernel
theorem dX6_restore_22 : decode cX6_restore 22 = .ok (.aload_n 0, 1) := by decide +kernel
theorem dX6_restore_23 : decode cX6_restore 23 = .ok (.getfield 7, 3) := by decide +kernel
theorem dX6_restore_26 : decode cX6_restore 26 = .ok (.iload_n 1, 1) := by decide +kernel
theorem dX6_restore_27 : decode cX6_restore 27 = .ok (.aload_n 0, 1) := by decide +kernel
theorem dX6_restore_28 : decode cX6_restore 28 = .ok (.getfield 19, 3) := by decide +kernel
theorem dX6_restore_31 : decode cX6_restore 31 = .ok (.iload_n 1, 1) := by decide +kernel
theorem dX6_restore_32 : decode cX6_restore 32 = .ok (.iaload, 1) := by decide +kernel
theorem dX6_restore_33 : decode cX6_restore 33 = .ok (.iastore, 1) := by decide +kernel
theorem dX6_restore_34 : decode cX6_restore 34 = .ok (.iinc 1 1, 3) := by decide +kernel
theorem dX6_restore_37 : decode cX6_restore 37 = .ok (.goto (-21), 3) := by decide +kernel
theorem dX6_restore_40 : decode cX6_restore 40 = .ok (.aload_n 0, 1) := by decide +kernel
theorem dX6_restore_41 : decode cX6_restore 41 = .ok (.aload_n 0, 1) := by decide +kernel
theorem dX6_restore_42 : decode cX6_restore 42 = .ok (.getfield 7, 3) := by decide +kernel
theorem dX6_restore_45 : decode cX6_restore 45 = .ok (.iconst 0, 1) := by decide +kernel
theorem dX6_restore_46 : decode cX6_restore 46 = .ok (.iaload, 1) := by decide +kernel
theorem dX6_restore_47 : decode cX6_restore 47 = .ok (.invokevirtual 77, 3) := by decide +kernel
theorem dX6_restore_50 : decode cX6_restore 50 = .ok (.ireturn, 1) := by decide +kernel
theorem dX6_findsDepths_0 : decode cX6_findsDepths 0 = .ok (.iconst 0, 1) := by decide +kernel
theorem dX6_findsDepths_1 : decode cX6_findsDepths 1 = .ok (.istore_n 1, 1) := by decide +kernel
theorem dX6_findsDepths_2 : decode cX6_findsDepths 2 = .ok (.iload_n 1, 1) := by decide +kernel
theorem dX6_findsDepths_3 : decode cX6_findsDepths 3 = .ok (.aload_n 0, 1) := by decide +kernel
theorem dX6_findsDepths_4 : decode cX6_findsDepths 4 = .ok (.getfield 7, 3) := by decide +kernel
theorem dX6_findsDepths_7 : decode cX6_findsDepths 7 = .ok (.iconst 0, 1) := by decide +kernel
theorem dX6_findsDepths_8 : decode cX6_findsDepths 8 = .ok (.iaload, 1) := by decide +kernel
theorem dX6_findsDepths_9 : decode cX6_findsDepths 9 = .ok (.if_icmp .ge 130, 3) := by decide +kernel
theorem dX6_findsDepths_12 : decode cX6_findsDepths 12 = .ok (.aload_n 0, 1) := by decide +kernel
theorem dX6_findsDepths_13 : decode cX6_findsDepths 13 = .ok (.iload_n 1, 1) := by decide +kernel
theorem dX6_findsDepths_14 : decode cX6_findsDepths 14 = .ok (.iconst 0, 1) := by decide +kernel
theorem dX6_findsDepths_15 : decode cX6_findsDepths 15 = .ok (.invokevirtual 100, 3) := by decide +kernel
theorem dX6_findsDepths_18 : decode cX6_findsDepths 18 = .ok (.invokestatic 180, 3) := by decide +kernel
theorem dX6_findsDepths_21 : decode cX6_findsDepths 21 = .ok (.istore_n 2, 1) := by decide +kernel
theorem dX6_findsDepths_22 : decode cX6_findsDepths 22 = .ok (.aload_n 0, 1) := by decide +kernel
theorem dX6_findsDepths_23 : decode cX6_findsDepths 23 = .ok (.getfield 41, 3) := by decide +kernel
theorem dX6_findsDepths_26 : decode cX6_findsDepths 26 = .ok (.iload_n 1, 1) := by decide +kernel
theorem dX6_findsDepths_27 : decode cX6_findsDepths 27 = .ok (.iload_n 2, 1) := by decide +kernel
theorem dX6_findsDepths_28 : decode cX6_findsDepths 28 = .ok (.ifCond .ne 7, 3) := by decide +kernel
theorem dX6_findsDepths_31 : decode cX6_findsDepths 31 = .ok (.iconst 0, 1) := by decide +kernel
theorem dX6_findsDepths_32 : decode cX6_findsDepths 32 = .ok (.goto 4, 3) := by decide +kernel
theorem dX6_findsDepths_35 : decode cX6_findsDepths 35 = .ok (.iconst 1, 1) := by decide +kernel
theorem dX6_findsDepths_36 : decode cX6_findsDepths 36 = .ok (.iastore, 1) := by decide +kernel
theorem dX6_findsDepths_37 : decode cX6_findsDepths 37 = .ok (.aload_n 0, 1) := by decide +kernel
theorem dX6_findsDepths_38 : decode cX6_findsDepths 38 = .ok (.getfield 44, 3) := by decide +kernel
theorem dX6_findsDepths_41 : decode cX6_findsDepths 41 = .ok (.iload_n 1, 1) := by decide +kernel
theorem dX6_findsDepths_42 : decode cX6_findsDepths 42 = .ok (.iload_n 2, 1) := by decide +kernel
theorem dX6_findsDepths_43 : decode cX6_findsDepths 43 = .ok (.ifCond .ne 9, 3) := by decide +kernel
theorem dX6_findsDepths_46 : decode cX6_findsDepths 46 = .ok (.iconst 1, 1) := by decide +kernel
theorem dX6_findsDepths_47 : decode cX6_findsDepths 47 = .ok (.iload_n 1, 1) := by decide +kernel
theorem dX6_findsDepths_48 : decode cX6_findsDepths 48 = .ok (.ishl, 1) := by decide +kernel
theorem dX6_findsDepths_49 : decode cX6_findsDepths 49 = .ok (.goto 4, 3) := by decide +kernel
theorem dX6_findsDepths_52 : decode cX6_findsDepths 52 = .ok (.iconst 0, 1) := by decide +kernel
theorem dX6_findsDepths_53 : decode cX6_findsDepths 53 = .ok (.iastore, 1) := by decide +kernel
theorem dX6_findsDepths_54 : decode cX6_findsDepths 54 = .ok (.iconst 1, 1) := by decide +kernel
theorem dX6_findsDepths_55 : decode cX6_findsDepths 55 = .ok (.istore_n 3, 1) := by decide +kernel
theorem dX6_findsDepths_56 : decode cX6_findsDepths 56 = .ok (.iload_n 3, 1) := by decide +kernel
theorem dX6_findsDepths_57 : decode cX6_findsDepths 57 = .ok (.iload_n 2, 1) := by decide +kernel
theorem dX6_findsDepths_58 : decode cX6_findsDepths 58 = .ok (.if_icmp .gt 75, 3) := by decide +kernel
theorem dX6_findsDepths_61 : decode cX6_findsDepths 61 = .ok (.aload_n 0, 1) := by decide +kernel
theorem dX6_findsDepths_62 : decode cX6_findsDepths 62 = .ok (.iload_n 1, 1) := by decide +kernel
theorem dX6_findsDepths_63 : decode cX6_findsDepths 63 = .ok (.iload_n 3, 1) := by decide +kernel
theorem dX6_findsDepths_64 : decode cX6_findsDepths 64 = .ok (.invokevirtual 100, 3) := by decide +kernel
theorem dX6_findsDepths_67 : decode cX6_findsDepths 67 = .ok (.istore 4, 2) := by decide +kernel
theorem dX6_findsDepths_69 : decode cX6_findsDepths 69 = .ok (.aload_n 0, 1) := by decide +kernel
theorem dX6_findsDepths_70 : decode cX6_findsDepths 70 = .ok (.getfield 41, 3) := by decide +kernel
theorem dX6_findsDepths_73 : decode cX6_findsDepths 73 = .ok (.iload_n 1, 1) := by decide +kernel
theorem dX6_findsDepths_74 : decode cX6_findsDepths 74 = .ok (.aload_n 0, 1) := by decide +kernel
theorem dX6_findsDepths_75 : decode cX6_findsDepths 75 = .ok (.getfield 41, 3) := by decide +kernel
theorem dX6_findsDepths_78 : decode cX6_findsDepths 78 = .ok (.iload 4, 2) := by decide +kernel
theorem dX6_findsDepths_80 : decode cX6_findsDepths 80 = .ok (.iaload, 1) := by decide +kernel
theorem dX6_findsDepths_81 : decode cX6_findsDepths 81 = .ok (.iconst 1, 1) := by decide +kernel
theorem dX6_findsDepths_82 : decode cX6_findsDepths 82 = .ok (.iadd, 1) := by decide +kernel
theorem dX6_findsDepths_83 : decode cX6_findsDepths 83 = .ok (.aload_n 0, 1) := by decide +kernel
theorem dX6_findsDepths_84 : decode cX6_findsDepths 84 = .ok (.getfield 41, 3) := by decide +kernel
theorem dX6_findsDepths_87 : decode cX6_findsDepths 87 = .ok (.iload_n 1, 1) := by decide +kernel
theorem dX6_findsDepths_88 : decode cX6_findsDepths 88 = .ok (.iaload, 1) := by decide +kernel
theorem dX6_findsDepths_89 : decode cX6_findsDepths 89 = .ok (.if_icmp .le 15, 3) := by decide +kernel
theorem dX6_findsDepths_92 : decode cX6_findsDepths 92 = .ok (.aload_n 0, 1) := by decide +kernel
theorem dX6_findsDepths_93 : decode cX6_findsDepths 93 = .ok (.getfield 41, 3) := by decide +kernel
theorem dX6_findsDepths_96 : decode cX6_findsDepths 96 = .ok (.iload 4, 2) := by decide +kernel
theorem dX6_findsDepths_98 : decode cX6_findsDepths 98 = .ok (.iaload, 1) := by decide +kernel
theorem dX6_findsDepths_99 : decode cX6_findsDepths 99 = .ok (.iconst 1, 1) := by decide +kernel
theorem dX6_findsDepths_100 : decode cX6_findsDepths 100 = .ok (.iadd, 1) := by decide +kernel
theorem dX6_findsDepths_101 : decode cX6_findsDepths 101 = .ok (.goto 9, 3) := by decide +kernel
theorem dX6_findsDepths_104 : decode cX6_findsDepths 104 = .ok (.aload_n 0, 1) := by decide +kernel
theorem dX6_findsDepths_105 : decode cX6_findsDepths 105 = .ok (.getfield 41, 3) := by decide +kernel
theorem dX6_findsDepths_108 : decode cX6_findsDepths 108 = .ok (.iload_n 1, 1) := by decide +kernel
theorem dX6_findsDepths_109 : decode cX6_findsDepths 109 = .ok (.iaload, 1) := by decide +kernel
theorem dX6_findsDepths_110 : decode cX6_findsDepths 110 = .ok (.iastore, 1) := by decide +kernel
theorem dX6_findsDepths_111 : decode cX6_findsDepths 111 = .ok (.aload_n 0, 1) := by decide +kernel
theorem dX6_findsDepths_112 : decode cX6_findsDepths 112 = .ok (.getfield 44, 3) := by decide +kernel
theorem dX6_findsDepths_115 : decode cX6_findsDepths 115 = .ok (.iload_n 1, 1) := by decide +kernel
theorem dX6_findsDepths_116 : decode cX6_findsDepths 116 = .ok (.dup2, 1) := by decide +kernel
theorem dX6_findsDepths_117 : decode cX6_findsDepths 117 = .ok (.iaload, 1) := by decide +kernel
theorem dX6_findsDepths_118 : decode cX6_findsDepths 118 = .ok (.aload_n 0, 1) := by decide +kernel
theorem dX6_findsDepths_119 : decode cX6_findsDepths 119 = .ok (.getfield 44, 3) := by decide +kernel
theorem dX6_findsDepths_122 : decode cX6_findsDepths 122 = .ok (.iload 4, 2) := by decide +kernel
theorem dX6_findsDepths_124 : decode cX6_findsDepths 124 = .ok (.iaload, 1) := by decide +kernel
theorem dX6_findsDepths_125 : decode cX6_findsDepths 125 = .ok (.ior, 1) := by decide +kernel
theorem dX6_findsDepths_126 : decode cX6_findsDepths 126 = .ok (.iastore, 1) := by decide +kernel
theorem dX6_findsDepths_127 : decode cX6_findsDepths 127 = .ok (.iinc 3 1, 3) := by decide +kernel
theorem dX6_findsDepths_130 : decode cX6_findsDepths 130 = .ok (.goto (-74), 3) := by decide +kernel
theorem dX6_findsDepths_133 : decode cX6_findsDepths 133 = .ok (.iinc 1 1, 3) := by decide +kernel
theorem dX6_findsDepths_136 : decode cX6_findsDepths 136 = .ok (.goto (-134), 3) := by decide +kernel
theorem dX6_findsDepths_139 : decode cX6_findsDepths 139 = .ok (.return_, 1) := by decide +kernel
theorem dX6_bitsOf_0 : decode cX6_bitsOf 0 = .ok (.iconst 0, 1) := by decide +kernel
theorem dX6_bitsOf_1 : decode cX6_bitsOf 1 = .ok (.istore_n 1, 1) := by decide +kernel
theorem dX6_bitsOf_2 : decode cX6_bitsOf 2 = .ok (.iload_n 0, 1) := by decide +kernel
theorem dX6_bitsOf_3 : decode cX6_bitsOf 3 = .ok (.istore_n 2, 1) := by decide +kernel
theorem dX6_bitsOf_4 : decode cX6_bitsOf 4 = .ok (.iload_n 2, 1) := by decide +kernel
theorem dX6_bitsOf_5 : decode cX6_bitsOf 5 = .ok (.ifCond .eq 15, 3) := by decide +kernel
theorem dX6_bitsOf_8 : decode cX6_bitsOf 8 = .ok (.iinc 1 1, 3) := by decide +kernel
theorem dX6_bitsOf_11 : decode cX6_bitsOf 11 = .ok (.iload_n 2, 1) := by decide +kernel
theorem dX6_bitsOf_12 : decode cX6_bitsOf 12 = .ok (.iload_n 2, 1) := by decide +kernel
theorem dX6_bitsOf_13 : decode cX6_bitsOf 13 = .ok (.iconst 1, 1) := by decide +kernel
theorem dX6_bitsOf_14 : decode cX6_bitsOf 14 = .ok (.isub, 1) := by decide +kernel
theorem dX6_bitsOf_15 : decode cX6_bitsOf 15 = .ok (.iand, 1) := by decide +kernel
theorem dX6_bitsOf_16 : decode cX6_bitsOf 16 = .ok (.istore_n 2, 1) := by decide +kernel
theorem dX6_bitsOf_17 : decode cX6_bitsOf 17 = .ok (.goto (-13), 3) := by decide +kernel
theorem dX6_bitsOf_20 : decode cX6_bitsOf 20 = .ok (.iload_n 1, 1) := by decide +kernel
theorem dX6_bitsOf_21 : decode cX6_bitsOf 21 = .ok (.ireturn, 1) := by decide +kernel
theorem dX6_line_0 : decode cX6_line 0 = .ok (.aload_n 0, 1) := by decide +kernel
theorem dX6_line_1 : decode cX6_line 1 = .ok (.iload_n 1, 1) := by decide +kernel
theorem dX6_line_2 : decode cX6_line 2 = .ok (.invokevirtual 91, 3) := by decide +kernel
theorem dX6_line_5 : decode cX6_line 5 = .ok (.ifCond .ne 6, 3) := by decide +kernel
theorem dX6_line_8 : decode cX6_line 8 = .ok (.ldc 95, 2) := by decide +kernel
theorem dX6_line_10 : decode cX6_line 10 = .ok (.ireturn, 1) := by decide +kernel
theorem dX6_line_11 : decode cX6_line 11 = .ok (.iload_n 2, 1) := by decide +kernel
theorem dX6_line_12 : decode cX6_line 12 = .ok (.i2l, 1) := by decide +kernel
theorem dX6_line_13 : decode cX6_line 13 = .ok (.lconst 0, 1) := by decide +kernel
theorem dX6_line_14 : decode cX6_line 14 = .ok (.ldc2_w 193, 3) := by decide +kernel
theorem dX6_line_17 : decode cX6_line 17 = .ok (.invokestatic 65, 3) := by decide +kernel
theorem dX6_line_20 : decode cX6_line 20 = .ok (.ifCond .ne 6, 3) := by decide +kernel
theorem dX6_line_23 : decode cX6_line 23 = .ok (.ldc 90, 2) := by decide +kernel
theorem dX6_line_25 : decode cX6_line 25 = .ok (.ireturn, 1) := by decide +kernel
theorem dX6_line_26 : decode cX6_line 26 = .ok (.iload_n 2, 1) := by decide +kernel
theorem dX6_line_27 : decode cX6_line 27 = .ok (.iconst 4, 1) := by decide +kernel
theorem dX6_line_28 : decode cX6_line 28 = .ok (.if_icmp .ge 10, 3) := by decide +kernel
theorem dX6_line_31 : decode cX6_line 31 = .ok (.aload_n 0, 1) := by decide +kernel
theorem dX6_line_32 : decode cX6_line 32 = .ok (.iload_n 1, 1) := by decide +kernel
theorem dX6_line_33 : decode cX6_line 33 = .ok (.iload_n 2, 1) := by decide +kernel
theorem dX6_line_34 : decode cX6_line 34 = .ok (.invokevirtual 100, 3) := by decide +kernel
theorem dX6_line_37 : decode cX6_line 37 = .ok (.ireturn, 1) := by decide +kernel
theorem dX6_line_38 : decode cX6_line 38 = .ok (.aload_n 0, 1) := by decide +kernel
theorem dX6_line_39 : decode cX6_line 39 = .ok (.getfield 7, 3) := by decide +kernel
theorem dX6_line_42 : decode cX6_line 42 = .ok (.iconst 1, 1) := by decide +kernel
theorem dX6_line_43 : decode cX6_line 43 = .ok (.iaload, 1) := by decide +kernel
theorem dX6_line_44 : decode cX6_line 44 = .ok (.istore_n 3, 1) := by decide +kernel
theorem dX6_line_45 : decode cX6_line 45 = .ok (.aload_n 0, 1) := by decide +kernel
theorem dX6_line_46 : decode cX6_line 46 = .ok (.iload_n 1, 1) := by decide +kernel
theorem dX6_line_47 : decode cX6_line 47 = .ok (.iload_n 3, 1) := by decide +kernel
theorem dX6_line_48 : decode cX6_line 48 = .ok (.invokevirtual 125, 3) := by decide +kernel
theorem dX6_line_51 : decode cX6_line 51 = .ok (.aload_n 0, 1) := by decide +kernel
theorem dX6_line_52 : decode cX6_line 52 = .ok (.iload_n 1, 1) := by decide +kernel
theorem dX6_line_53 : decode cX6_line 53 = .ok (.invokevirtual 129, 3) := by decide +kernel
theorem dX6_line_56 : decode cX6_line 56 = .ok (.aload_n 0, 1) := by decide +kernel
theorem dX6_line_57 : decode cX6_line 57 = .ok (.invokevirtual 195, 3) := by decide +kernel
theorem dX6_line_60 : decode cX6_line 60 = .ok (.aload_n 0, 1) := by decide +kernel
theorem dX6_line_61 : decode cX6_line 61 = .ok (.iload_n 1, 1) := by decide +kernel
theorem dX6_line_62 : decode cX6_line 62 = .ok (.iload_n 3, 1) := by decide +kernel
theorem dX6_line_63 : decode cX6_line 63 = .ok (.invokevirtual 133, 3) := by decide +kernel
theorem dX6_line_66 : decode cX6_line 66 = .ok (.istore 4, 2) := by decide +kernel
theorem dX6_line_68 : decode cX6_line 68 = .ok (.iload_n 2, 1) := by decide +kernel
theorem dX6_line_69 : decode cX6_line 69 = .ok (.tableswitch 73 4 8 #[35, 38, 50, 57, 66], 35) := by decide +kernel
theorem dX6_line_104 : decode cX6_line 104 = .ok (.iload 4, 2) := by decide +kernel
theorem dX6_line_106 : decode cX6_line 106 = .ok (.ireturn, 1) := by decide +kernel
theorem dX6_line_107 : decode cX6_line 107 = .ok (.iload 4, 2) := by decide +kernel
theorem dX6_line_109 : decode cX6_line 109 = .ok (.i2l, 1) := by decide +kernel
theorem dX6_line_110 : decode cX6_line 110 = .ok (.ldc2_w 118, 3) := by decide +kernel
theorem dX6_line_113 : decode cX6_line 113 = .ok (.lmul, 1) := by decide +kernel
theorem dX6_line_114 : decode cX6_line 114 = .ok (.iload_n 3, 1) := by decide +kernel
theorem dX6_line_115 : decode cX6_line 115 = .ok (.i2l, 1) := by decide +kernel
theorem dX6_line_116 : decode cX6_line 116 = .ok (.ldiv, 1) := by decide +kernel
theorem dX6_line_117 : decode cX6_line 117 = .ok (.l2i, 1) := by decide +kernel
theorem dX6_line_118 : decode cX6_line 118 = .ok (.ireturn, 1) := by decide +kernel
theorem dX6_line_119 : decode cX6_line 119 = .ok (.aload_n 0, 1) := by decide +kernel
theorem dX6_line_120 : decode cX6_line 120 = .ok (.getfield 32, 3) := by decide +kernel
theorem dX6_line_123 : decode cX6_line 123 = .ok (.iload_n 1, 1) := by decide +kernel
theorem dX6_line_124 : decode cX6_line 124 = .ok (.iaload, 1) := by decide +kernel
theorem dX6_line_125 : decode cX6_line 125 = .ok (.ireturn, 1) := by decide +kernel
theorem dX6_line_126 : decode cX6_line 126 = .ok (.aload_n 0, 1) := by decide +kernel
theorem dX6_line_127 : decode cX6_line 127 = .ok (.iload_n 1, 1) := by decide +kernel
theorem dX6_line_128 : decode cX6_line 128 = .ok (.iload 4, 2) := by decide +kernel
theorem dX6_line_130 : decode cX6_line 130 = .ok (.iload_n 3, 1) := by decide +kernel
theorem dX6_line_131 : decode cX6_line 131 = .ok (.invokevirtual 136, 3) := by decide +kernel
theorem dX6_line_134 : decode cX6_line 134 = .ok (.ireturn, 1) := by decide +kernel
theorem dX6_line_135 : decode cX6_line 135 = .ok (.aload_n 0, 1) := by decide +kernel
theorem dX6_line_136 : decode cX6_line 136 = .ok (.getfield 41, 3) := by decide +kernel
theorem dX6_line_139 : decode cX6_line 139 = .ok (.iload_n 1, 1) := by decide +kernel
theorem dX6_line_140 : decode cX6_line 140 = .ok (.iaload, 1) := by decide +kernel
theorem dX6_line_141 : decode cX6_line 141 = .ok (.ireturn, 1) := by decide +kernel
theorem dX6_line_142 : decode cX6_line 142 = .ok (.aload_n 0, 1) := by decide +kernel
theorem dX6_line_143 : decode cX6_line 143 = .ok (.getfield 44, 3) := by decide +kernel
theorem dX6_line_146 : decode cX6_line 146 = .ok (.iload_n 1, 1) := by decide +kernel
theorem dX6_line_147 : decode cX6_line 147 = .ok (.iaload, 1) := by decide +kernel
theorem dX6_line_148 : decode cX6_line 148 = .ok (.invokestatic 198, 3) := by decide +kernel
theorem dX6_line_151 : decode cX6_line 151 = .ok (.ireturn, 1) := by decide +kernel
theorem dX6_bit_0 : decode cX6_bit 0 = .ok (.aload_n 0, 1) := by decide +kernel
theorem dX6_bit_1 : decode cX6_bit 1 = .ok (.iload_n 1, 1) := by decide +kernel
theorem dX6_bit_2 : decode cX6_bit 2 = .ok (.invokevirtual 91, 3) := by decide +kernel
theorem dX6_bit_5 : decode cX6_bit 5 = .ok (.ifCond .ne 6, 3) := by decide +kernel
theorem dX6_bit_8 : decode cX6_bit 8 = .ok (.ldc 95, 2) := by decide +kernel
theorem dX6_bit_10 : decode cX6_bit 10 = .ok (.ireturn, 1) := by decide +kernel
theorem dX6_bit_11 : decode cX6_bit 11 = .ok (.iload_n 2, 1) := by decide +kernel
theorem dX6_bit_12 : decode cX6_bit 12 = .ok (.i2l, 1) := by decide +kernel
theorem dX6_bit_13 : decode cX6_bit 13 = .ok (.lconst 0, 1) := by decide +kernel
theorem dX6_bit_14 : decode cX6_bit 14 = .ok (.ldc2_w 201, 3) := by decide +kernel
theorem dX6_bit_17 : decode cX6_bit 17 = .ok (.invokestatic 65, 3) := by decide +kernel
theorem dX6_bit_20 : decode cX6_bit 20 = .ok (.ifCond .ne 6, 3) := by decide +kernel
theorem dX6_bit_23 : decode cX6_bit 23 = .ok (.ldc 90, 2) := by decide +kernel
theorem dX6_bit_25 : decode cX6_bit 25 = .ok (.ireturn, 1) := by decide +kernel
theorem dX6_bit_26 : decode cX6_bit 26 = .ok (.aload_n 0, 1) := by decide +kernel
theorem dX6_bit_27 : decode cX6_bit 27 = .ok (.iload_n 1, 1) := by decide +kernel
theorem dX6_bit_28 : decode cX6_bit 28 = .ok (.iload_n 2, 1) := by decide +kernel
theorem dX6_bit_29 : decode cX6_bit 29 = .ok (.iconst 1, 1) := by decide +kernel
theorem dX6_bit_30 : decode cX6_bit 30 = .ok (.iadd, 1) := by decide +kernel
theorem dX6_bit_31 : decode cX6_bit 31 = .ok (.invokevirtual 125, 3) := by decide +kernel
theorem dX6_bit_34 : decode cX6_bit 34 = .ok (.aload_n 0, 1) := by decide +kernel
theorem dX6_bit_35 : decode cX6_bit 35 = .ok (.iload_n 1, 1) := by decide +kernel
theorem dX6_bit_36 : decode cX6_bit 36 = .ok (.iload_n 2, 1) := by decide +kernel
theorem dX6_bit_37 : decode cX6_bit 37 = .ok (.invokevirtual 107, 3) := by decide +kernel
theorem dX6_bit_40 : decode cX6_bit 40 = .ok (.ireturn, 1) := by decide +kernel
theorem dX6_overlap_0 : decode cX6_overlap 0 = .ok (.aload_n 0, 1) := by decide +kernel
theorem dX6_overlap_1 : decode cX6_overlap 1 = .ok (.iload_n 1, 1) := by decide +kernel
theorem dX6_overlap_2 : decode cX6_overlap 2 = .ok (.invokevirtual 91, 3) := by decide +kernel
theorem dX6_overlap_5 : decode cX6_overlap 5 = .ok (.ifCond .eq 11, 3) := by decide +kernel
theorem dX6_overlap_8 : decode cX6_overlap 8 = .ok (.aload_n 0, 1) := by decide +kernel
theorem dX6_overlap_9 : decode cX6_overlap 9 = .ok (.iload_n 2, 1) := by decide +kernel
theorem dX6_overlap_10 : decode cX6_overlap 10 = .ok (.invokevirtual 91, 3) := by decide +kernel
theorem dX6_overlap_13 : decode cX6_overlap 13 = .ok (.ifCond .ne 6, 3) := by decide +kernel
theorem dX6_overlap_16 : decode cX6_overlap 16 = .ok (.ldc 95, 2) := by decide +kernel
theorem dX6_overlap_18 : decode cX6_overlap 18 = .ok (.ireturn, 1) := by decide +kernel
theorem dX6_overlap_19 : decode cX6_overlap 19 = .ok (.aload_n 0, 1) := by decide +kernel
theorem dX6_overlap_20 : decode cX6_overlap 20 = .ok (.getfield 7, 3) := by decide +kernel
theorem dX6_overlap_23 : decode cX6_overlap 23 = .ok (.iconst 1, 1) := by decide +kernel
theorem dX6_overlap_24 : decode cX6_overlap 24 = .ok (.iaload, 1) := by decide +kernel
theorem dX6_overlap_25 : decode cX6_overlap 25 = .ok (.istore_n 3, 1) := by decide +kernel
theorem dX6_overlap_26 : decode cX6_overlap 26 = .ok (.aload_n 0, 1) := by decide +kernel
theorem dX6_overlap_27 : decode cX6_overlap 27 = .ok (.iload_n 1, 1) := by decide +kernel
theorem dX6_overlap_28 : decode cX6_overlap 28 = .ok (.iload_n 2, 1) := by decide +kernel
theorem dX6_overlap_29 : decode cX6_overlap 29 = .ok (.if_icmp .le 7, 3) := by decide +kernel
theorem dX6_overlap_32 : decode cX6_overlap 32 = .ok (.iload_n 1, 1) := by decide +kernel
theorem dX6_overlap_33 : decode cX6_overlap 33 = .ok (.goto 4, 3) := by decide +kernel
theorem dX6_overlap_36 : decode cX6_overlap 36 = .ok (.iload_n 2, 1) := by decide +kernel
theorem dX6_overlap_37 : decode cX6_overlap 37 = .ok (.iload_n 3, 1) := by decide +kernel
theorem dX6_overlap_38 : decode cX6_overlap 38 = .ok (.invokevirtual 125, 3) := by decide +kernel
theorem dX6_overlap_41 : decode cX6_overlap 41 = .ok (.lconst 0, 1) := by decide +kernel
theorem dX6_overlap_42 : decode cX6_overlap 42 = .ok (.lstore 4, 2) := by decide +kernel
theorem dX6_overlap_44 : decode cX6_overlap 44 = .ok (.iconst 0, 1) := by decide +kernel
theorem dX6_overlap_45 : decode cX6_overlap 45 = .ok (.istore 6, 2) := by decide +kernel
theorem dX6_overlap_47 : decode cX6_overlap 47 = .ok (.iload 6, 2) := by decide +kernel
theorem dX6_overlap_49 : decode cX6_overlap 49 = .ok (.iload_n 3, 1) := by decide +kernel
theorem dX6_overlap_50 : decode cX6_overlap 50 = .ok (.if_icmp .ge 30, 3) := by decide +kernel
theorem dX6_overlap_53 : decode cX6_overlap 53 = .ok (.lload 4, 2) := by decide +kernel
theorem dX6_overlap_55 : decode cX6_overlap 55 = .ok (.aload_n 0, 1) := by decide +kernel
theorem dX6_overlap_56 : decode cX6_overlap 56 = .ok (.iload_n 1, 1) := by decide +kernel
theorem dX6_overlap_57 : decode cX6_overlap 57 = .ok (.iload 6, 2) := by decide +kernel
theorem dX6_overlap_59 : decode cX6_overlap 59 = .ok (.invokevirtual 107, 3) := by decide +kernel
theorem dX6_overlap_62 : decode cX6_overlap 62 = .ok (.aload_n 0, 1) := by decide +kernel
theorem dX6_overlap_63 : decode cX6_overlap 63 = .ok (.iload_n 2, 1) := by decide +kernel
theorem dX6_overlap_64 : decode cX6_overlap 64 = .ok (.iload 6, 2) := by decide +kernel
theorem dX6_overlap_66 : decode cX6_overlap 66 = .ok (.invokevirtual 107, 3) := by decide +kernel
theorem dX6_overlap_69 : decode cX6_overlap 69 = .ok (.iand, 1) := by decide +kernel
theorem dX6_overlap_70 : decode cX6_overlap 70 = .ok (.i2l, 1) := by decide +kernel
theorem dX6_overlap_71 : decode cX6_overlap 71 = .ok (.ladd, 1) := by decide +kernel
theorem dX6_overlap_72 : decode cX6_overlap 72 = .ok (.lstore 4, 2) := by decide +kernel
theorem dX6_overlap_74 : decode cX6_overlap 74 = .ok (.iinc 6 1, 3) := by decide +kernel
theorem dX6_overlap_77 : decode cX6_overlap 77 = .ok (.goto (-30), 3) := by decide +kernel
theorem dX6_overlap_80 : decode cX6_overlap 80 = .ok (.lload 4, 2) := by decide +kernel
theorem dX6_overlap_82 : decode cX6_overlap 82 = .ok (.iload_n 3, 1) := by decide +kernel
theorem dX6_overlap_83 : decode cX6_overlap 83 = .ok (.i2l, 1) := by decide +kernel
theorem dX6_overlap_84 : decode cX6_overlap 84 = .ok (.lmul, 1) := by decide +kernel
theorem dX6_overlap_85 : decode cX6_overlap 85 = .ok (.aload_n 0, 1) := by decide +kernel
theorem dX6_overlap_86 : decode cX6_overlap 86 = .ok (.iload_n 1, 1) := by decide +kernel
theorem dX6_overlap_87 : decode cX6_overlap 87 = .ok (.iload_n 3, 1) := by decide +kernel
theorem dX6_overlap_88 : decode cX6_overlap 88 = .ok (.invokevirtual 133, 3) := by decide +kernel
theorem dX6_overlap_91 : decode cX6_overlap 91 = .ok (.i2l, 1) := by decide +kernel
theorem dX6_overlap_92 : decode cX6_overlap 92 = .ok (.aload_n 0, 1) := by decide +kernel
theorem dX6_overlap_93 : decode cX6_overlap 93 = .ok (.iload_n 2, 1) := by decide +kernel
theorem dX6_overlap_94 : decode cX6_overlap 94 = .ok (.iload_n 3, 1) := by decide +kernel
theorem dX6_overlap_95 : decode cX6_overlap 95 = .ok (.invokevirtual 133, 3) := by decide +kernel
theorem dX6_overlap_98 : decode cX6_overlap 98 = .ok (.i2l, 1) := by decide +kernel
theorem dX6_overlap_99 : decode cX6_overlap 99 = .ok (.lmul, 1) := by decide +kernel
theorem dX6_overlap_100 : decode cX6_overlap 100 = .ok (.lsub, 1) := by decide +kernel
theorem dX6_overlap_101 : decode cX6_overlap 101 = .ok (.lstore 6, 2) := by decide +kernel
theorem dX6_overlap_103 : decode cX6_overlap 103 = .ok (.lload 6, 2) := by decide +kernel
theorem dX6_overlap_105 : decode cX6_overlap 105 = .ok (.ldc2_w 118, 3) := by decide +kernel
theorem dX6_overlap_108 : decode cX6_overlap 108 = .ok (.lmul, 1) := by decide +kernel
theorem dX6_overlap_109 : decode cX6_overlap 109 = .ok (.iload_n 3, 1) := by decide +kernel
theorem dX6_overlap_110 : decode cX6_overlap 110 = .ok (.i2l, 1) := by decide +kernel
theorem dX6_overlap_111 : decode cX6_overlap 111 = .ok (.iload_n 3, 1) := by decide +kernel
theorem dX6_overlap_112 : decode cX6_overlap 112 = .ok (.i2l, 1) := by decide +kernel
theorem dX6_overlap_113 : decode cX6_overlap 113 = .ok (.lmul, 1) := by decide +kernel
theorem dX6_overlap_114 : decode cX6_overlap 114 = .ok (.ldiv, 1) := by decide +kernel
theorem dX6_overlap_115 : decode cX6_overlap 115 = .ok (.l2i, 1) := by decide +kernel
theorem dX6_overlap_116 : decode cX6_overlap 116 = .ok (.ireturn, 1) := by decide +kernel
theorem dX6_errorAt_0 : decode cX6_errorAt 0 = .ok (.aload_n 0, 1) := by decide +kernel
theorem dX6_errorAt_1 : decode cX6_errorAt 1 = .ok (.iload_n 1, 1) := by decide +kernel
theorem dX6_errorAt_2 : decode cX6_errorAt 2 = .ok (.invokevirtual 91, 3) := by decide +kernel
theorem dX6_errorAt_5 : decode cX6_errorAt 5 = .ok (.ifCond .ne 6, 3) := by decide +kernel
theorem dX6_errorAt_8 : decode cX6_errorAt 8 = .ok (.ldc 95, 2) := by decide +kernel
theorem dX6_errorAt_10 : decode cX6_errorAt 10 = .ok (.ireturn, 1) := by decide +kernel
theorem dX6_errorAt_11 : decode cX6_errorAt 11 = .ok (.iload_n 2, 1) := by decide +kernel
theorem dX6_errorAt_12 : decode cX6_errorAt 12 = .ok (.i2l, 1) := by decide +kernel
theorem dX6_errorAt_13 : decode cX6_errorAt 13 = .ok (.lconst 1, 1) := by decide +kernel
theorem dX6_errorAt_14 : decode cX6_errorAt 14 = .ok (.ldc2_w 105, 3) := by decide +kernel
theorem dX6_errorAt_17 : decode cX6_errorAt 17 = .ok (.invokestatic 65, 3) := by decide +kernel
theorem dX6_errorAt_20 : decode cX6_errorAt 20 = .ok (.ifCond .eq 12, 3) := by decide +kernel
theorem dX6_errorAt_23 : decode cX6_errorAt 23 = .ok (.aload_n 0, 1) := by decide +kernel
theorem dX6_errorAt_24 : decode cX6_errorAt 24 = .ok (.iload_n 1, 1) := by decide +kernel
theorem dX6_errorAt_25 : decode cX6_errorAt 25 = .ok (.iload_n 2, 1) := by decide +kernel
theorem dX6_errorAt_26 : decode cX6_errorAt 26 = .ok (.invokevirtual 203, 3) := by decide +kernel
theorem dX6_errorAt_29 : decode cX6_errorAt 29 = .ok (.goto 5, 3) := by decide +kernel
theorem dX6_errorAt_32 : decode cX6_errorAt 32 = .ok (.ldc 90, 2) := by decide +kernel
theorem dX6_errorAt_34 : decode cX6_errorAt 34 = .ok (.ireturn, 1) := by decide +kernel
theorem dX6_settles_0 : decode cX6_settles 0 = .ok (.aload_n 0, 1) := by decide +kernel
theorem dX6_settles_1 : decode cX6_settles 1 = .ok (.iload_n 1, 1) := by decide +kernel
theorem dX6_settles_2 : decode cX6_settles 2 = .ok (.invokevirtual 91, 3) := by decide +kernel
theorem dX6_settles_5 : decode cX6_settles 5 = .ok (.ifCond .ne 6, 3) := by decide +kernel
theorem dX6_settles_8 : decode cX6_settles 8 = .ok (.ldc 95, 2) := by decide +kernel
theorem dX6_settles_10 : decode cX6_settles 10 = .ok (.ireturn, 1) := by decide +kernel
theorem dX6_settles_11 : decode cX6_settles 11 = .ok (.iload_n 2, 1) := by decide +kernel
theorem dX6_settles_12 : decode cX6_settles 12 = .ok (.i2l, 1) := by decide +kernel
theorem dX6_settles_13 : decode cX6_settles 13 = .ok (.lconst 0, 1) := by decide +kernel
theorem dX6_settles_14 : decode cX6_settles 14 = .ok (.ldc2_w 118, 3) := by decide +kernel
theorem dX6_settles_17 : decode cX6_settles 17 = .ok (.invokestatic 65, 3) := by decide +kernel
theorem dX6_settles_20 : decode cX6_settles 20 = .ok (.ifCond .ne 6, 3) := by decide +kernel
theorem dX6_settles_23 : decode cX6_settles 23 = .ok (.ldc 90, 2) := by decide +kernel
theorem dX6_settles_25 : decode cX6_settles 25 = .ok (.ireturn, 1) := by decide +kernel
theorem dX6_settles_26 : decode cX6_settles 26 = .ok (.aload_n 0, 1) := by decide +kernel
theorem dX6_settles_27 : decode cX6_settles 27 = .ok (.iload_n 1, 1) := by decide +kernel
theorem dX6_settles_28 : decode cX6_settles 28 = .ok (.sipush 1000, 3) := by decide +kernel
theorem dX6_settles_31 : decode cX6_settles 31 = .ok (.invokevirtual 125, 3) := by decide +kernel
theorem dX6_settles_34 : decode cX6_settles 34 = .ok (.aload_n 0, 1) := by decide +kernel
theorem dX6_settles_35 : decode cX6_settles 35 = .ok (.iload_n 1, 1) := by decide +kernel
theorem dX6_settles_36 : decode cX6_settles 36 = .ok (.invokevirtual 129, 3) := by decide +kernel
theorem dX6_settles_39 : decode cX6_settles 39 = .ok (.aload_n 0, 1) := by decide +kernel
theorem dX6_settles_40 : decode cX6_settles 40 = .ok (.iload_n 1, 1) := by decide +kernel
theorem dX6_settles_41 : decode cX6_settles 41 = .ok (.sipush 1000, 3) := by decide +kernel
theorem dX6_settles_44 : decode cX6_settles 44 = .ok (.invokevirtual 133, 3) := by decide +kernel
theorem dX6_settles_47 : decode cX6_settles 47 = .ok (.istore_n 3, 1) := by decide +kernel
theorem dX6_settles_48 : decode cX6_settles 48 = .ok (.ldc 85, 2) := by decide +kernel
theorem dX6_settles_50 : decode cX6_settles 50 = .ok (.istore 4, 2) := by decide +kernel
theorem dX6_settles_52 : decode cX6_settles 52 = .ok (.sipush 1000, 3) := by decide +kernel
theorem dX6_settles_55 : decode cX6_settles 55 = .ok (.istore 5, 2) := by decide +kernel
theorem dX6_settles_57 : decode cX6_settles 57 = .ok (.iload 5, 2) := by decide +kernel
theorem dX6_settles_59 : decode cX6_settles 59 = .ok (.ifCond .le 37, 3) := by decide +kernel
theorem dX6_settles_62 : decode cX6_settles 62 = .ok (.aload_n 0, 1) := by decide +kernel
theorem dX6_settles_63 : decode cX6_settles 63 = .ok (.iload_n 1, 1) := by decide +kernel
theorem dX6_settles_64 : decode cX6_settles 64 = .ok (.iload_n 3, 1) := by decide +kernel
theorem dX6_settles_65 : decode cX6_settles 65 = .ok (.iload 5, 2) := by decide +kernel
theorem dX6_settles_67 : decode cX6_settles 67 = .ok (.invokevirtual 136, 3) := by decide +kernel
theorem dX6_settles_70 : decode cX6_settles 70 = .ok (.iload_n 2, 1) := by decide +kernel
theorem dX6_settles_71 : decode cX6_settles 71 = .ok (.if_icmp .gt 25, 3) := by decide +kernel
theorem dX6_settles_74 : decode cX6_settles 74 = .ok (.iload 5, 2) := by decide +kernel
theorem dX6_settles_76 : decode cX6_settles 76 = .ok (.istore 4, 2) := by decide +kernel
theorem dX6_settles_78 : decode cX6_settles 78 = .ok (.iload_n 3, 1) := by decide +kernel
theorem dX6_settles_79 : decode cX6_settles 79 = .ok (.aload_n 0, 1) := by decide +kernel
theorem dX6_settles_80 : decode cX6_settles 80 = .ok (.iload_n 1, 1) := by decide +kernel
theorem dX6_settles_81 : decode cX6_settles 81 = .ok (.iload 5, 2) := by decide +kernel
theorem dX6_settles_83 : decode cX6_settles 83 = .ok (.iconst 1, 1) := by decide +kernel
theorem dX6_settles_84 : decode cX6_settles 84 = .ok (.isub, 1) := by decide +kernel
theorem dX6_settles_85 : decode cX6_settles 85 = .ok (.invokevirtual 107, 3) := by decide +kernel
theorem dX6_settles_88 : decode cX6_settles 88 = .ok (.isub, 1) := by decide +kernel
theorem dX6_settles_89 : decode cX6_settles 89 = .ok (.istore_n 3, 1) := by decide +kernel
theorem dX6_settles_90 : decode cX6_settles 90 = .ok (.iinc 5 (-1), 3) := by decide +kernel
theorem dX6_settles_93 : decode cX6_settles 93 = .ok (.goto (-36), 3) := by decide +kernel
theorem dX6_settles_96 : decode cX6_settles 96 = .ok (.iload 4, 2) := by decide +kernel
theorem dX6_settles_98 : decode cX6_settles 98 = .ok (.ireturn, 1) := by decide +kernel
theorem dX6_bestSeed_0 : decode cX6_bestSeed 0 = .ok (.aload_n 0, 1) := by decide +kernel
theorem dX6_bestSeed_1 : decode cX6_bestSeed 1 = .ok (.iload_n 1, 1) := by decide +kernel
theorem dX6_bestSeed_2 : decode cX6_bestSeed 2 = .ok (.invokevirtual 91, 3) := by decide +kernel
theorem dX6_bestSeed_5 : decode cX6_bestSeed 5 = .ok (.ifCond .eq 11, 3) := by decide +kernel
theorem dX6_bestSeed_8 : decode cX6_bestSeed 8 = .ok (.aload_n 0, 1) := by decide +kernel
theorem dX6_bestSeed_9 : decode cX6_bestSeed 9 = .ok (.iload_n 2, 1) := by decide +kernel
theorem dX6_bestSeed_10 : decode cX6_bestSeed 10 = .ok (.invokevirtual 91, 3) := by decide +kernel
theorem dX6_bestSeed_13 : decode cX6_bestSeed 13 = .ok (.ifCond .ne 6, 3) := by decide +kernel
theorem dX6_bestSeed_16 : decode cX6_bestSeed 16 = .ok (.ldc 95, 2) := by decide +kernel
theorem dX6_bestSeed_18 : decode cX6_bestSeed 18 = .ok (.ireturn, 1) := by decide +kernel
theorem dX6_bestSeed_19 : decode cX6_bestSeed 19 = .ok (.iload_n 3, 1) := by decide +kernel
theorem dX6_bestSeed_20 : decode cX6_bestSeed 20 = .ok (.i2l, 1) := by decide +kernel
theorem dX6_bestSeed_21 : decode cX6_bestSeed 21 = .ok (.lconst 0, 1) := by decide +kernel
theorem dX6_bestSeed_22 : decode cX6_bestSeed 22 = .ok (.lconst 1, 1) := by decide +kernel
theorem dX6_bestSeed_23 : decode cX6_bestSeed 23 = .ok (.invokestatic 65, 3) := by decide +kernel
theorem dX6_bestSeed_26 : decode cX6_bestSeed 26 = .ok (.ifCond .ne 6, 3) := by decide +kernel
theorem dX6_bestSeed_29 : decode cX6_bestSeed 29 = .ok (.ldc 90, 2) := by decide +kernel
theorem dX6_bestSeed_31 : decode cX6_bestSeed 31 = .ok (.ireturn, 1) := by decide +kernel
theorem dX6_bestSeed_32 : decode cX6_bestSeed 32 = .ok (.aload_n 0, 1) := by decide +kernel
theorem dX6_bestSeed_33 : decode cX6_bestSeed 33 = .ok (.iload_n 1, 1) := by decide +kernel
theorem dX6_bestSeed_34 : decode cX6_bestSeed 34 = .ok (.iconst 0, 1) := by decide +kernel
theorem dX6_bestSeed_35 : decode cX6_bestSeed 35 = .ok (.invokevirtual 100, 3) := by decide +kernel
theorem dX6_bestSeed_38 : decode cX6_bestSeed 38 = .ok (.ifCond .eq 6, 3) := by decide +kernel
theorem dX6_bestSeed_41 : decode cX6_bestSeed 41 = .ok (.ldc 104, 2) := by decide +kernel
theorem dX6_bestSeed_43 : decode cX6_bestSeed 43 = .ok (.ireturn, 1) := by decide +kernel
theorem dX6_bestSeed_44 : decode cX6_bestSeed 44 = .ok (.iconst 2, 1) := by decide +kernel
theorem dX6_bestSeed_45 : decode cX6_bestSeed 45 = .ok (.iconst 4, 1) := by decide +kernel
theorem dX6_bestSeed_46 : decode cX6_bestSeed 46 = .ok (.iload_n 1, 1) := by decide +kernel
theorem dX6_bestSeed_47 : decode cX6_bestSeed 47 = .ok (.imul, 1) := by decide +kernel
theorem dX6_bestSeed_48 : decode cX6_bestSeed 48 = .ok (.iadd, 1) := by decide +kernel
theorem dX6_bestSeed_49 : decode cX6_bestSeed 49 = .ok (.iconst 2, 1) := by decide +kernel
theorem dX6_bestSeed_50 : decode cX6_bestSeed 50 = .ok (.iadd, 1) := by decide +kernel
theorem dX6_bestSeed_51 : decode cX6_bestSeed 51 = .ok (.istore 4, 2) := by decide +kernel
theorem dX6_bestSeed_53 : decode cX6_bestSeed 53 = .ok (.aload_n 0, 1) := by decide +kernel
theorem dX6_bestSeed_54 : decode cX6_bestSeed 54 = .ok (.getfield 7, 3) := by decide +kernel
theorem dX6_bestSeed_57 : decode cX6_bestSeed 57 = .ok (.iload 4, 2) := by decide +kernel
theorem dX6_bestSeed_59 : decode cX6_bestSeed 59 = .ok (.iaload, 1) := by decide +kernel
theorem dX6_bestSeed_60 : decode cX6_bestSeed 60 = .ok (.istore 5, 2) := by decide +kernel
theorem dX6_bestSeed_62 : decode cX6_bestSeed 62 = .ok (.iconst 0, 1) := by decide +kernel
theorem dX6_bestSeed_63 : decode cX6_bestSeed 63 = .ok (.istore 6, 2) := by decide +kernel
theorem dX6_bestSeed_65 : decode cX6_bestSeed 65 = .ok (.iconst 0, 1) := by decide +kernel
theorem dX6_bestSeed_66 : decode cX6_bestSeed 66 = .ok (.istore 7, 2) := by decide +kernel
theorem dX6_bestSeed_68 : decode cX6_bestSeed 68 = .ok (.iconst 1, 1) := by decide +kernel
theorem dX6_bestSeed_69 : decode cX6_bestSeed 69 = .ok (.istore 8, 2) := by decide +kernel
theorem dX6_bestSeed_71 : decode cX6_bestSeed 71 = .ok (.iload 8, 2) := by decide +kernel
theorem dX6_bestSeed_73 : decode cX6_bestSeed 73 = .ok (.sipush 256, 3) := by decide +kernel
theorem dX6_bestSeed_76 : decode cX6_bestSeed 76 = .ok (.if_icmp .ge 69, 3) := by decide +kernel
theorem dX6_bestSeed_79 : decode cX6_bestSeed 79 = .ok (.aload_n 0, 1) := by decide +kernel
theorem dX6_bestSeed_80 : decode cX6_bestSeed 80 = .ok (.getfield 7, 3) := by decide +kernel
theorem dX6_bestSeed_83 : decode cX6_bestSeed 83 = .ok (.iload 4, 2) := by decide +kernel
theorem dX6_bestSeed_85 : decode cX6_bestSeed 85 = .ok (.iload 8, 2) := by decide +kernel
theorem dX6_bestSeed_87 : decode cX6_bestSeed 87 = .ok (.iastore, 1) := by decide +kernel
theorem dX6_bestSeed_88 : decode cX6_bestSeed 88 = .ok (.aload_n 0, 1) := by decide +kernel
theorem dX6_bestSeed_89 : decode cX6_bestSeed 89 = .ok (.iload_n 2, 1) := by decide +kernel
theorem dX6_bestSeed_90 : decode cX6_bestSeed 90 = .ok (.aload_n 0, 1) := by decide +kernel
theorem dX6_bestSeed_91 : decode cX6_bestSeed 91 = .ok (.getfield 7, 3) := by decide +kernel
theorem dX6_bestSeed_94 : decode cX6_bestSeed 94 = .ok (.iconst 1, 1) := by decide +kernel
theorem dX6_bestSeed_95 : decode cX6_bestSeed 95 = .ok (.iaload, 1) := by decide +kernel
theorem dX6_bestSeed_96 : decode cX6_bestSeed 96 = .ok (.invokevirtual 203, 3) := by decide +kernel
theorem dX6_bestSeed_99 : decode cX6_bestSeed 99 = .ok (.istore 9, 2) := by decide +kernel
theorem dX6_bestSeed_101 : decode cX6_bestSeed 101 = .ok (.iload 8, 2) := by decide +kernel
theorem dX6_bestSeed_103 : decode cX6_bestSeed 103 = .ok (.iconst 1, 1) := by decide +kernel
theorem dX6_bestSeed_104 : decode cX6_bestSeed 104 = .ok (.if_icmp .eq 10, 3) := by decide +kernel
theorem dX6_bestSeed_107 : decode cX6_bestSeed 107 = .ok (.iload 9, 2) := by decide +kernel
theorem dX6_bestSeed_109 : decode cX6_bestSeed 109 = .ok (.iload 7, 2) := by decide +kernel
theorem dX6_bestSeed_111 : decode cX6_bestSeed 111 = .ok (.if_icmp .ge 8, 3) := by decide +kernel
theorem dX6_bestSeed_114 : decode cX6_bestSeed 114 = .ok (.iload 8, 2) := by decide +kernel
theorem dX6_bestSeed_116 : decode cX6_bestSeed 116 = .ok (.goto 5, 3) := by decide +kernel
theorem dX6_bestSeed_119 : decode cX6_bestSeed 119 = .ok (.iload 6, 2) := by decide +kernel
theorem dX6_bestSeed_121 : decode cX6_bestSeed 121 = .ok (.istore 6, 2) := by decide +kernel
theorem dX6_bestSeed_123 : decode cX6_bestSeed 123 = .ok (.iload 6, 2) := by decide +kernel
theorem dX6_bestSeed_125 : decode cX6_bestSeed 125 = .ok (.iload 8, 2) := by decide +kernel
theorem dX6_bestSeed_127 : decode cX6_bestSeed 127 = .ok (.if_icmp .ne 8, 3) := by decide +kernel
theorem dX6_bestSeed_130 : decode cX6_bestSeed 130 = .ok (.iload 9, 2) := by decide +kernel
theorem dX6_bestSeed_132 : decode cX6_bestSeed 132 = .ok (.goto 5, 3) := by decide +kernel
theorem dX6_bestSeed_135 : decode cX6_bestSeed 135 = .ok (.iload 7, 2) := by decide +kernel
theorem dX6_bestSeed_137 : decode cX6_bestSeed 137 = .ok (.istore 7, 2) := by decide +kernel
theorem dX6_bestSeed_139 : decode cX6_bestSeed 139 = .ok (.iinc 8 1, 3) := by decide +kernel
theorem dX6_bestSeed_142 : decode cX6_bestSeed 142 = .ok (.goto (-71), 3) := by decide +kernel
theorem dX6_bestSeed_145 : decode cX6_bestSeed 145 = .ok (.aload_n 0, 1) := by decide +kernel
theorem dX6_bestSeed_146 : decode cX6_bestSeed 146 = .ok (.getfield 7, 3) := by decide +kernel
theorem dX6_bestSeed_149 : decode cX6_bestSeed 149 = .ok (.iload 4, 2) := by decide +kernel
theorem dX6_bestSeed_151 : decode cX6_bestSeed 151 = .ok (.iload 5, 2) := by decide +kernel
theorem dX6_bestSeed_153 : decode cX6_bestSeed 153 = .ok (.iastore, 1) := by decide +kernel
theorem dX6_bestSeed_154 : decode cX6_bestSeed 154 = .ok (.iload_n 3, 1) := by decide +kernel
theorem dX6_bestSeed_155 : decode cX6_bestSeed 155 = .ok (.ifCond .ne 8, 3) := by decide +kernel
theorem dX6_bestSeed_158 : decode cX6_bestSeed 158 = .ok (.iload 6, 2) := by decide +kernel
theorem dX6_bestSeed_160 : decode cX6_bestSeed 160 = .ok (.goto 5, 3) := by decide +kernel
theorem dX6_bestSeed_163 : decode cX6_bestSeed 163 = .ok (.iload 7, 2) := by decide +kernel
theorem dX6_bestSeed_165 : decode cX6_bestSeed 165 = .ok (.ireturn, 1) := by decide +kernel
theorem dX6_unlike_0 : decode cX6_unlike 0 = .ok (.aload_n 0, 1) := by decide +kernel
theorem dX6_unlike_1 : decode cX6_unlike 1 = .ok (.iload_n 1, 1) := by decide +kernel
theorem dX6_unlike_2 : decode cX6_unlike 2 = .ok (.invokevirtual 91, 3) := by decide +kernel
theorem dX6_unlike_5 : decode cX6_unlike 5 = .ok (.ifCond .ne 6, 3) := by decide +kernel
theorem dX6_unlike_8 : decode cX6_unlike 8 = .ok (.ldc 95, 2) := by decide +kernel
theorem dX6_unlike_10 : decode cX6_unlike 10 = .ok (.ireturn, 1) := by decide +kernel
theorem dX6_unlike_11 : decode cX6_unlike 11 = .ok (.aload_n 0, 1) := by decide +kernel
theorem dX6_unlike_12 : decode cX6_unlike 12 = .ok (.iload_n 1, 1) := by decide +kernel
theorem dX6_unlike_13 : decode cX6_unlike 13 = .ok (.sipush 510, 3) := by decide +kernel
theorem dX6_unlike_16 : decode cX6_unlike 16 = .ok (.invokevirtual 125, 3) := by decide +kernel
theorem dX6_unlike_19 : decode cX6_unlike 19 = .ok (.iconst 0, 1) := by decide +kernel
theorem dX6_unlike_20 : decode cX6_unlike 20 = .ok (.istore_n 2, 1) := by decide +kernel
theorem dX6_unlike_21 : decode cX6_unlike 21 = .ok (.bipush 60, 2) := by decide +kernel
theorem dX6_unlike_23 : decode cX6_unlike 23 = .ok (.istore_n 3, 1) := by decide +kernel
theorem dX6_unlike_24 : decode cX6_unlike 24 = .ok (.iload_n 3, 1) := by decide +kernel
theorem dX6_unlike_25 : decode cX6_unlike 25 = .ok (.sipush 255, 3) := by decide +kernel
theorem dX6_unlike_28 : decode cX6_unlike 28 = .ok (.if_icmp .ge 36, 3) := by decide +kernel
theorem dX6_unlike_31 : decode cX6_unlike 31 = .ok (.iload_n 2, 1) := by decide +kernel
theorem dX6_unlike_32 : decode cX6_unlike 32 = .ok (.aload_n 0, 1) := by decide +kernel
theorem dX6_unlike_33 : decode cX6_unlike 33 = .ok (.iload_n 1, 1) := by decide +kernel
theorem dX6_unlike_34 : decode cX6_unlike 34 = .ok (.iload_n 3, 1) := by decide +kernel
theorem dX6_unlike_35 : decode cX6_unlike 35 = .ok (.invokevirtual 107, 3) := by decide +kernel
theorem dX6_unlike_38 : decode cX6_unlike 38 = .ok (.aload_n 0, 1) := by decide +kernel
theorem dX6_unlike_39 : decode cX6_unlike 39 = .ok (.iload_n 1, 1) := by decide +kernel
theorem dX6_unlike_40 : decode cX6_unlike 40 = .ok (.iload_n 3, 1) := by decide +kernel
theorem dX6_unlike_41 : decode cX6_unlike 41 = .ok (.sipush 255, 3) := by decide +kernel
theorem dX6_unlike_44 : decode cX6_unlike 44 = .ok (.iadd, 1) := by decide +kernel
theorem dX6_unlike_45 : decode cX6_unlike 45 = .ok (.invokevirtual 107, 3) := by decide +kernel
theorem dX6_unlike_48 : decode cX6_unlike 48 = .ok (.if_icmp .eq 7, 3) := by decide +kernel
theorem dX6_unlike_51 : decode cX6_unlike 51 = .ok (.iconst 1, 1) := by decide +kernel
theorem dX6_unlike_52 : decode cX6_unlike 52 = .ok (.goto 4, 3) := by decide +kernel
theorem dX6_unlike_55 : decode cX6_unlike 55 = .ok (.iconst 0, 1) := by decide +kernel
theorem dX6_unlike_56 : decode cX6_unlike 56 = .ok (.iadd, 1) := by decide +kernel
theorem dX6_unlike_57 : decode cX6_unlike 57 = .ok (.istore_n 2, 1) := by decide +kernel
theorem dX6_unlike_58 : decode cX6_unlike 58 = .ok (.iinc 3 1, 3) := by decide +kernel
theorem dX6_unlike_61 : decode cX6_unlike 61 = .ok (.goto (-37), 3) := by decide +kernel
theorem dX6_unlike_64 : decode cX6_unlike 64 = .ok (.iload_n 2, 1) := by decide +kernel
theorem dX6_unlike_65 : decode cX6_unlike 65 = .ok (.ireturn, 1) := by decide +kernel
theorem dX6_manySources_0 : decode cX6_manySources 0 = .ok (.iconst 0, 1) := by decide +kernel
theorem dX6_manySources_1 : decode cX6_manySources 1 = .ok (.istore_n 1, 1) := by decide +kernel
theorem dX6_manySources_2 : decode cX6_manySources 2 = .ok (.iconst 0, 1) := by decide +kernel
theorem dX6_manySources_3 : decode cX6_manySources 3 = .ok (.istore_n 2, 1) := by decide +kernel
theorem dX6_manySources_4 : decode cX6_manySources 4 = .ok (.iload_n 2, 1) := by decide +kernel
theorem dX6_manySources_5 : decode cX6_manySources 5 = .ok (.aload_n 0, 1) := by decide +kernel
theorem dX6_manySources_6 : decode cX6_manySources 6 = .ok (.getfield 7, 3) := by decide +kernel
theorem dX6_manySources_9 : decode cX6_manySources 9 = .ok (.iconst 0, 1) := by decide +kernel
theorem dX6_manySources_10 : decode cX6_manySources 10 = .ok (.iaload, 1) := by decide +kernel
theorem dX6_manySources_11 : decode cX6_manySources 11 = .ok (.if_icmp .ge 26, 3) := by decide +kernel
theorem dX6_manySources_14 : decode cX6_manySources 14 = .ok (.iload_n 1, 1) := by decide +kernel
theorem dX6_manySources_15 : decode cX6_manySources 15 = .ok (.aload_n 0, 1) := by decide +kernel
theorem dX6_manySources_16 : decode cX6_manySources 16 = .ok (.iload_n 2, 1) := by decide +kernel
theorem dX6_manySources_17 : decode cX6_manySources 17 = .ok (.iconst 0, 1) := by decide +kernel
theorem dX6_manySources_18 : decode cX6_manySources 18 = .ok (.invokevirtual 100, 3) := by decide +kernel
theorem dX6_manySources_21 : decode cX6_manySources 21 = .ok (.ifCond .ne 7, 3) := by decide +kernel
theorem dX6_manySources_24 : decode cX6_manySources 24 = .ok (.iconst 1, 1) := by decide +kernel
theorem dX6_manySources_25 : decode cX6_manySources 25 = .ok (.goto 4, 3) := by decide +kernel
theorem dX6_manySources_28 : decode cX6_manySources 28 = .ok (.iconst 0, 1) := by decide +kernel
theorem dX6_manySources_29 : decode cX6_manySources 29 = .ok (.iadd, 1) := by decide +kernel
theorem dX6_manySources_30 : decode cX6_manySources 30 = .ok (.istore_n 1, 1) := by decide +kernel
theorem dX6_manySources_31 : decode cX6_manySources 31 = .ok (.iinc 2 1, 3) := by decide +kernel
theorem dX6_manySources_34 : decode cX6_manySources 34 = .ok (.goto (-30), 3) := by decide +kernel
theorem dX6_manySources_37 : decode cX6_manySources 37 = .ok (.iload_n 1, 1) := by decide +kernel
theorem dX6_manySources_38 : decode cX6_manySources 38 = .ok (.ireturn, 1) := by decide +kernel
theorem dX6_errors_0 : decode cX6_errors 0 = .ok (.iconst 0, 1) := by decide +kernel
theorem dX6_errors_1 : decode cX6_errors 1 = .ok (.istore_n 1, 1) := by decide +kernel
theorem dX6_errors_2 : decode cX6_errors 2 = .ok (.iconst 0, 1) := by decide +kernel
theorem dX6_errors_3 : decode cX6_errors 3 = .ok (.istore_n 2, 1) := by decide +kernel
theorem dX6_errors_4 : decode cX6_errors 4 = .ok (.iload_n 2, 1) := by decide +kernel
theorem dX6_errors_5 : decode cX6_errors 5 = .ok (.aload_n 0, 1) := by decide +kernel
theorem dX6_errors_6 : decode cX6_errors 6 = .ok (.getfield 7, 3) := by decide +kernel
theorem dX6_errors_9 : decode cX6_errors 9 = .ok (.iconst 0, 1) := by decide +kernel
theorem dX6_errors_10 : decode cX6_errors 10 = .ok (.iaload, 1) := by decide +kernel
theorem dX6_errors_11 : decode cX6_errors 11 = .ok (.if_icmp .ge 23, 3) := by decide +kernel
theorem dX6_errors_14 : decode cX6_errors 14 = .ok (.iload_n 1, 1) := by decide +kernel
theorem dX6_errors_15 : decode cX6_errors 15 = .ok (.aload_n 0, 1) := by decide +kernel
theorem dX6_errors_16 : decode cX6_errors 16 = .ok (.iload_n 2, 1) := by decide +kernel
theorem dX6_errors_17 : decode cX6_errors 17 = .ok (.aload_n 0, 1) := by decide +kernel
theorem dX6_errors_18 : decode cX6_errors 18 = .ok (.getfield 7, 3) := by decide +kernel
theorem dX6_errors_21 : decode cX6_errors 21 = .ok (.iconst 1, 1) := by decide +kernel
theorem dX6_errors_22 : decode cX6_errors 22 = .ok (.iaload, 1) := by decide +kernel
theorem dX6_errors_23 : decode cX6_errors 23 = .ok (.invokevirtual 203, 3) := by decide +kernel
theorem dX6_errors_26 : decode cX6_errors 26 = .ok (.iadd, 1) := by decide +kernel
theorem dX6_errors_27 : decode cX6_errors 27 = .ok (.istore_n 1, 1) := by decide +kernel
theorem dX6_errors_28 : decode cX6_errors 28 = .ok (.iinc 2 1, 3) := by decide +kernel
theorem dX6_errors_31 : decode cX6_errors 31 = .ok (.goto (-27), 3) := by decide +kernel
theorem dX6_errors_34 : decode cX6_errors 34 = .ok (.iload_n 1, 1) := by decide +kernel
theorem dX6_errors_35 : decode cX6_errors 35 = .ok (.ireturn, 1) := by decide +kernel
theorem dX6_worst_0 : decode cX6_worst 0 = .ok (.ldc 85, 2) := by decide +kernel
theorem dX6_worst_2 : decode cX6_worst 2 = .ok (.istore_n 1, 1) := by decide +kernel
theorem dX6_worst_3 : decode cX6_worst 3 = .ok (.iconst (-1), 1) := by decide +kernel
theorem dX6_worst_4 : decode cX6_worst 4 = .ok (.istore_n 2, 1) := by decide +kernel
theorem dX6_worst_5 : decode cX6_worst 5 = .ok (.iconst 0, 1) := by decide +kernel
theorem dX6_worst_6 : decode cX6_worst 6 = .ok (.istore_n 3, 1) := by decide +kernel
theorem dX6_worst_7 : decode cX6_worst 7 = .ok (.iload_n 3, 1) := by decide +kernel
theorem dX6_worst_8 : decode cX6_worst 8 = .ok (.aload_n 0, 1) := by decide +kernel
theorem dX6_worst_9 : decode cX6_worst 9 = .ok (.getfield 7, 3) := by decide +kernel
theorem dX6_worst_12 : decode cX6_worst 12 = .ok (.iconst 0, 1) := by decide +kernel
theorem dX6_worst_13 : decode cX6_worst 13 = .ok (.iaload, 1) := by decide +kernel
theorem dX6_worst_14 : decode cX6_worst 14 = .ok (.if_icmp .ge 47, 3) := by decide +kernel
theorem dX6_worst_17 : decode cX6_worst 17 = .ok (.aload_n 0, 1) := by decide +kernel
theorem dX6_worst_18 : decode cX6_worst 18 = .ok (.iload_n 3, 1) := by decide +kernel
theorem dX6_worst_19 : decode cX6_worst 19 = .ok (.aload_n 0, 1) := by decide +kernel
theorem dX6_worst_20 : decode cX6_worst 20 = .ok (.getfield 7, 3) := by decide +kernel
theorem dX6_worst_23 : decode cX6_worst 23 = .ok (.iconst 1, 1) := by decide +kernel
theorem dX6_worst_24 : decode cX6_worst 24 = .ok (.iaload, 1) := by decide +kernel
theorem dX6_worst_25 : decode cX6_worst 25 = .ok (.invokevirtual 203, 3) := by decide +kernel
theorem dX6_worst_28 : decode cX6_worst 28 = .ok (.istore 4, 2) := by decide +kernel
theorem dX6_worst_30 : decode cX6_worst 30 = .ok (.iload 4, 2) := by decide +kernel
theorem dX6_worst_32 : decode cX6_worst 32 = .ok (.iload_n 2, 1) := by decide +kernel
theorem dX6_worst_33 : decode cX6_worst 33 = .ok (.if_icmp .le 7, 3) := by decide +kernel
theorem dX6_worst_36 : decode cX6_worst 36 = .ok (.iload_n 3, 1) := by decide +kernel
theorem dX6_worst_37 : decode cX6_worst 37 = .ok (.goto 4, 3) := by decide +kernel
theorem dX6_worst_40 : decode cX6_worst 40 = .ok (.iload_n 1, 1) := by decide +kernel
theorem dX6_worst_41 : decode cX6_worst 41 = .ok (.istore_n 1, 1) := by decide +kernel
theorem dX6_worst_42 : decode cX6_worst 42 = .ok (.iload 4, 2) := by decide +kernel
theorem dX6_worst_44 : decode cX6_worst 44 = .ok (.iload_n 2, 1) := by decide +kernel
theorem dX6_worst_45 : decode cX6_worst 45 = .ok (.if_icmp .le 8, 3) := by decide +kernel
theorem dX6_worst_48 : decode cX6_worst 48 = .ok (.iload 4, 2) := by decide +kernel
theorem dX6_worst_50 : decode cX6_worst 50 = .ok (.goto 4, 3) := by decide +kernel
theorem dX6_worst_53 : decode cX6_worst 53 = .ok (.iload_n 2, 1) := by decide +kernel
theorem dX6_worst_54 : decode cX6_worst 54 = .ok (.istore_n 2, 1) := by decide +kernel
theorem dX6_worst_55 : decode cX6_worst 55 = .ok (.iinc 3 1, 3) := by decide +kernel
theorem dX6_worst_58 : decode cX6_worst 58 = .ok (.goto (-51), 3) := by decide +kernel
theorem dX6_worst_61 : decode cX6_worst 61 = .ok (.iload_n 1, 1) := by decide +kernel
theorem dX6_worst_62 : decode cX6_worst 62 = .ok (.ireturn, 1) := by decide +kernel
theorem dX6_deepest_0 : decode cX6_deepest 0 = .ok (.aload_n 0, 1) := by decide +kernel
theorem dX6_deepest_1 : decode cX6_deepest 1 = .ok (.invokevirtual 195, 3) := by decide +kernel
theorem dX6_deepest_4 : decode cX6_deepest 4 = .ok (.iconst 0, 1) := by decide +kernel
theorem dX6_deepest_5 : decode cX6_deepest 5 = .ok (.istore_n 1, 1) := by decide +kernel
theorem dX6_deepest_6 : decode cX6_deepest 6 = .ok (.iconst 0, 1) := by decide +kernel
theorem dX6_deepest_7 : decode cX6_deepest 7 = .ok (.istore_n 2, 1) := by decide +kernel
theorem dX6_deepest_8 : decode cX6_deepest 8 = .ok (.iload_n 2, 1) := by decide +kernel
theorem dX6_deepest_9 : decode cX6_deepest 9 = .ok (.aload_n 0, 1) := by decide +kernel
theorem dX6_deepest_10 : decode cX6_deepest 10 = .ok (.getfield 7, 3) := by decide +kernel
theorem dX6_deepest_13 : decode cX6_deepest 13 = .ok (.iconst 0, 1) := by decide +kernel
theorem dX6_deepest_14 : decode cX6_deepest 14 = .ok (.iaload, 1) := by decide +kernel
theorem dX6_deepest_15 : decode cX6_deepest 15 = .ok (.if_icmp .ge 30, 3) := by decide +kernel
theorem dX6_deepest_18 : decode cX6_deepest 18 = .ok (.aload_n 0, 1) := by decide +kernel
theorem dX6_deepest_19 : decode cX6_deepest 19 = .ok (.getfield 41, 3) := by decide +kernel
theorem dX6_deepest_22 : decode cX6_deepest 22 = .ok (.iload_n 2, 1) := by decide +kernel
theorem dX6_deepest_23 : decode cX6_deepest 23 = .ok (.iaload, 1) := by decide +kernel
theorem dX6_deepest_24 : decode cX6_deepest 24 = .ok (.iload_n 1, 1) := by decide +kernel
theorem dX6_deepest_25 : decode cX6_deepest 25 = .ok (.if_icmp .le 12, 3) := by decide +kernel
theorem dX6_deepest_28 : decode cX6_deepest 28 = .ok (.aload_n 0, 1) := by decide +kernel
theorem dX6_deepest_29 : decode cX6_deepest 29 = .ok (.getfield 41, 3) := by decide +kernel
theorem dX6_deepest_32 : decode cX6_deepest 32 = .ok (.iload_n 2, 1) := by decide +kernel
theorem dX6_deepest_33 : decode cX6_deepest 33 = .ok (.iaload, 1) := by decide +kernel
theorem dX6_deepest_34 : decode cX6_deepest 34 = .ok (.goto 4, 3) := by decide +kernel
theorem dX6_deepest_37 : decode cX6_deepest 37 = .ok (.iload_n 1, 1) := by decide +kernel
theorem dX6_deepest_38 : decode cX6_deepest 38 = .ok (.istore_n 1, 1) := by decide +kernel
theorem dX6_deepest_39 : decode cX6_deepest 39 = .ok (.iinc 2 1, 3) := by decide +kernel
theorem dX6_deepest_42 : decode cX6_deepest 42 = .ok (.goto (-34), 3) := by decide +kernel
theorem dX6_deepest_45 : decode cX6_deepest 45 = .ok (.iload_n 1, 1) := by decide +kernel
theorem dX6_deepest_46 : decode cX6_deepest 46 = .ok (.ireturn, 1) := by decide +kernel
theorem dX6_count_0 : decode cX6_count 0 = .ok (.iload_n 1, 1) := by decide +kernel
theorem dX6_count_1 : decode cX6_count 1 = .ok (.tableswitch 91 0 7 #[47, 54, 61, 66, 71, 76, 81, 86], 47) := by decide +kernel
theorem dX6_count_48 : decode cX6_count 48 = .ok (.aload_n 0, 1) := by decide +kernel
theorem dX6_count_49 : decode cX6_count 49 = .ok (.getfield 7, 3) := by decide +kernel
theorem dX6_count_52 : decode cX6_count 52 = .ok (.iconst 0, 1) := by decide +kernel
theorem dX6_count_53 : decode cX6_count 53 = .ok (.iaload, 1) := by decide +kernel
theorem dX6_count_54 : decode cX6_count 54 = .ok (.ireturn, 1) := by decide +kernel
theorem dX6_count_55 : decode cX6_count 55 = .ok (.aload_n 0, 1) := by decide +kernel
theorem dX6_count_56 : decode cX6_count 56 = .ok (.getfield 7, 3) := by decide +kernel
theorem dX6_count_59 : decode cX6_count 59 = .ok (.iconst 1, 1) := by decide +kernel
theorem dX6_count_60 : decode cX6_count 60 = .ok (.iaload, 1) := by decide +kernel
theorem dX6_count_61 : decode cX6_count 61 = .ok (.ireturn, 1) := by decide +kernel
theorem dX6_count_62 : decode cX6_count 62 = .ok (.aload_n 0, 1) := by decide +kernel
theorem dX6_count_63 : decode cX6_count 63 = .ok (.invokevirtual 206, 3) := by decide +kernel
theorem dX6_count_66 : decode cX6_count 66 = .ok (.ireturn, 1) := by decide +kernel
theorem dX6_count_67 : decode cX6_count 67 = .ok (.aload_n 0, 1) := by decide +kernel
theorem dX6_count_68 : decode cX6_count 68 = .ok (.invokevirtual 209, 3) := by decide +kernel
theorem dX6_count_71 : decode cX6_count 71 = .ok (.ireturn, 1) := by decide +kernel
theorem dX6_count_72 : decode cX6_count 72 = .ok (.aload_n 0, 1) := by decide +kernel
theorem dX6_count_73 : decode cX6_count 73 = .ok (.invokevirtual 212, 3) := by decide +kernel
theorem dX6_count_76 : decode cX6_count 76 = .ok (.ireturn, 1) := by decide +kernel
theorem dX6_count_77 : decode cX6_count 77 = .ok (.aload_n 0, 1) := by decide +kernel
theorem dX6_count_78 : decode cX6_count 78 = .ok (.invokevirtual 215, 3) := by decide +kernel
theorem dX6_count_81 : decode cX6_count 81 = .ok (.ireturn, 1) := by decide +kernel
theorem dX6_count_82 : decode cX6_count 82 = .ok (.aload_n 0, 1) := by decide +kernel
theorem dX6_count_83 : decode cX6_count 83 = .ok (.getfield 61, 3) := by decide +kernel
theorem dX6_count_86 : decode cX6_count 86 = .ok (.ireturn, 1) := by decide +kernel
theorem dX6_count_87 : decode cX6_count 87 = .ok (.aload_n 0, 1) := by decide +kernel
theorem dX6_count_88 : decode cX6_count 88 = .ok (.getfield 140, 3) := by decide +kernel
theorem dX6_count_91 : decode cX6_count 91 = .ok (.ireturn, 1) := by decide +kernel
theorem dX6_count_92 : decode cX6_count 92 = .ok (.ldc 90, 2) := by decide +kernel
theorem dX6_count_94 : decode cX6_count 94 = .ok (.ireturn, 1) := by decide +kernel
end
section
theorem dJ6_bitCount_0f7a4_0 : decode cJ6_bitCount_0f7a4 0 = .ok (.iload_n 0, 1) := by decide +kernel
theorem dJ6_bitCount_0f7a4_1 : decode cJ6_bitCount_0f7a4 1 = .ok (.iload_n 0, 1) := by decide +kernel
theorem dJ6_bitCount_0f7a4_2 : decode cJ6_bitCount_0f7a4 2 = .ok (.iconst 1, 1) := by decide +kernel
theorem dJ6_bitCount_0f7a4_3 : decode cJ6_bitCount_0f7a4 3 = .ok (.iushr, 1) := by decide +kernel
theorem dJ6_bitCount_0f7a4_4 : decode cJ6_bitCount_0f7a4 4 = .ok (.ldc_w 265, 3) := by decide +kernel
theorem dJ6_bitCount_0f7a4_7 : decode cJ6_bitCount_0f7a4 7 = .ok (.iand, 1) := by decide +kernel
theorem dJ6_bitCount_0f7a4_8 : decode cJ6_bitCount_0f7a4 8 = .ok (.isub, 1) := by decide +kernel
theorem dJ6_bitCount_0f7a4_9 : decode cJ6_bitCount_0f7a4 9 = .ok (.istore_n 0, 1) := by decide +kernel
theorem dJ6_bitCount_0f7a4_10 : decode cJ6_bitCount_0f7a4 10 = .ok (.iload_n 0, 1) := by decide +kernel
theorem dJ6_bitCount_0f7a4_11 : decode cJ6_bitCount_0f7a4 11 = .ok (.ldc_w 266, 3) := by decide +kernel
theorem dJ6_bitCount_0f7a4_14 : decode cJ6_bitCount_0f7a4 14 = .ok (.iand, 1) := by decide +kernel
theorem dJ6_bitCount_0f7a4_15 : decode cJ6_bitCount_0f7a4 15 = .ok (.iload_n 0, 1) := by decide +kernel
theorem dJ6_bitCount_0f7a4_16 : decode cJ6_bitCount_0f7a4 16 = .ok (.iconst 2, 1) := by decide +kernel
theorem dJ6_bitCount_0f7a4_17 : decode cJ6_bitCount_0f7a4 17 = .ok (.iushr, 1) := by decide +kernel
theorem dJ6_bitCount_0f7a4_18 : decode cJ6_bitCount_0f7a4 18 = .ok (.ldc_w 266, 3) := by decide +kernel
theorem dJ6_bitCount_0f7a4_21 : decode cJ6_bitCount_0f7a4 21 = .ok (.iand, 1) := by decide +kernel
theorem dJ6_bitCount_0f7a4_22 : decode cJ6_bitCount_0f7a4 22 = .ok (.iadd, 1) := by decide +kernel
theorem dJ6_bitCount_0f7a4_23 : decode cJ6_bitCount_0f7a4 23 = .ok (.istore_n 0, 1) := by decide +kernel
theorem dJ6_bitCount_0f7a4_24 : decode cJ6_bitCount_0f7a4 24 = .ok (.iload_n 0, 1) := by decide +kernel
theorem dJ6_bitCount_0f7a4_25 : decode cJ6_bitCount_0f7a4 25 = .ok (.iload_n 0, 1) := by decide +kernel
theorem dJ6_bitCount_0f7a4_26 : decode cJ6_bitCount_0f7a4 26 = .ok (.iconst 4, 1) := by decide +kernel
theorem dJ6_bitCount_0f7a4_27 : decode cJ6_bitCount_0f7a4 27 = .ok (.iushr, 1) := by decide +kernel
theorem dJ6_bitCount_0f7a4_28 : decode cJ6_bitCount_0f7a4 28 = .ok (.iadd, 1) := by decide +kernel
theorem dJ6_bitCount_0f7a4_29 : decode cJ6_bitCount_0f7a4 29 = .ok (.ldc_w 267, 3) := by decide +kernel
theorem dJ6_bitCount_0f7a4_32 : decode cJ6_bitCount_0f7a4 32 = .ok (.iand, 1) := by decide +kernel
theorem dJ6_bitCount_0f7a4_33 : decode cJ6_bitCount_0f7a4 33 = .ok (.istore_n 0, 1) := by decide +kernel
theorem dJ6_bitCount_0f7a4_34 : decode cJ6_bitCount_0f7a4 34 = .ok (.iload_n 0, 1) := by decide +kernel
theorem dJ6_bitCount_0f7a4_35 : decode cJ6_bitCount_0f7a4 35 = .ok (.iload_n 0, 1) := by decide +kernel
theorem dJ6_bitCount_0f7a4_36 : decode cJ6_bitCount_0f7a4 36 = .ok (.bipush 8, 2) := by decide +kernel
theorem dJ6_bitCount_0f7a4_38 : decode cJ6_bitCount_0f7a4 38 = .ok (.iushr, 1) := by decide +kernel
theorem dJ6_bitCount_0f7a4_39 : decode cJ6_bitCount_0f7a4 39 = .ok (.iadd, 1) := by decide +kernel
theorem dJ6_bitCount_0f7a4_40 : decode cJ6_bitCount_0f7a4 40 = .ok (.istore_n 0, 1) := by decide +kernel
theorem dJ6_bitCount_0f7a4_41 : decode cJ6_bitCount_0f7a4 41 = .ok (.iload_n 0, 1) := by decide +kernel
theorem dJ6_bitCount_0f7a4_42 : decode cJ6_bitCount_0f7a4 42 = .ok (.iload_n 0, 1) := by decide +kernel
theorem dJ6_bitCount_0f7a4_43 : decode cJ6_bitCount_0f7a4 43 = .ok (.bipush 16, 2) := by decide +kernel
theorem dJ6_bitCount_0f7a4_45 : decode cJ6_bitCount_0f7a4 45 = .ok (.iushr, 1) := by decide +kernel
theorem dJ6_bitCount_0f7a4_46 : decode cJ6_bitCount_0f7a4 46 = .ok (.iadd, 1) := by decide +kernel
theorem dJ6_bitCount_0f7a4_47 : decode cJ6_bitCount_0f7a4 47 = .ok (.istore_n 0, 1) := by decide +kernel
theorem dJ6_bitCount_0f7a4_48 : decode cJ6_bitCount_0f7a4 48 = .ok (.iload_n 0, 1) := by decide +kernel
theorem dJ6_bitCount_0f7a4_49 : decode cJ6_bitCount_0f7a4 49 = .ok (.bipush 63, 2) := by decide +kernel
theorem dJ6_bitCount_0f7a4_51 : decode cJ6_bitCount_0f7a4 51 = .ok (.iand, 1) := by decide +kernel
theorem dJ6_bitCount_0f7a4_52 : decode cJ6_bitCount_0f7a4 52 = .ok (.ireturn, 1) := by decide +kernel
theorem dJ13_bitCount_95d88_0 : decode cJ13_bitCount_95d88 0 = .ok (.lload_n 0, 1) := by decide +kernel
theorem dJ13_bitCount_95d88_1 : decode cJ13_bitCount_95d88 1 = .ok (.lload_n 0, 1) := by decide +kernel
theorem dJ13_bitCount_95d88_2 : decode cJ13_bitCount_95d88 2 = .ok (.iconst 1, 1) := by decide +kernel
theorem dJ13_bitCount_95d88_3 : decode cJ13_bitCount_95d88 3 = .ok (.lushr, 1) := by decide +kernel
theorem dJ13_bitCount_95d88_4 : decode cJ13_bitCount_95d88 4 = .ok (.ldc2_w 314, 3) := by decide +kernel
theorem dJ13_bitCount_95d88_7 : decode cJ13_bitCount_95d88 7 = .ok (.land, 1) := by decide +kernel
theorem dJ13_bitCount_95d88_8 : decode cJ13_bitCount_95d88 8 = .ok (.lsub, 1) := by decide +kernel
theorem dJ13_bitCount_95d88_9 : decode cJ13_bitCount_95d88 9 = .ok (.lstore_n 0, 1) := by decide +kernel
theorem dJ13_bitCount_95d88_10 : decode cJ13_bitCount_95d88 10 = .ok (.lload_n 0, 1) := by decide +kernel
theorem dJ13_bitCount_95d88_11 : decode cJ13_bitCount_95d88 11 = .ok (.ldc2_w 316, 3) := by decide +kernel
theorem dJ13_bitCount_95d88_14 : decode cJ13_bitCount_95d88 14 = .ok (.land, 1) := by decide +kernel
theorem dJ13_bitCount_95d88_15 : decode cJ13_bitCount_95d88 15 = .ok (.lload_n 0, 1) := by decide +kernel
theorem dJ13_bitCount_95d88_16 : decode cJ13_bitCount_95d88 16 = .ok (.iconst 2, 1) := by decide +kernel
theorem dJ13_bitCount_95d88_17 : decode cJ13_bitCount_95d88 17 = .ok (.lushr, 1) := by decide +kernel
theorem dJ13_bitCount_95d88_18 : decode cJ13_bitCount_95d88 18 = .ok (.ldc2_w 316, 3) := by decide +kernel
theorem dJ13_bitCount_95d88_21 : decode cJ13_bitCount_95d88 21 = .ok (.land, 1) := by decide +kernel
theorem dJ13_bitCount_95d88_22 : decode cJ13_bitCount_95d88 22 = .ok (.ladd, 1) := by decide +kernel
theorem dJ13_bitCount_95d88_23 : decode cJ13_bitCount_95d88 23 = .ok (.lstore_n 0, 1) := by decide +kernel
theorem dJ13_bitCount_95d88_24 : decode cJ13_bitCount_95d88 24 = .ok (.lload_n 0, 1) := by decide +kernel
theorem dJ13_bitCount_95d88_25 : decode cJ13_bitCount_95d88 25 = .ok (.lload_n 0, 1) := by decide +kernel
theorem dJ13_bitCount_95d88_26 : decode cJ13_bitCount_95d88 26 = .ok (.iconst 4, 1) := by decide +kernel
theorem dJ13_bitCount_95d88_27 : decode cJ13_bitCount_95d88 27 = .ok (.lushr, 1) := by decide +kernel
theorem dJ13_bitCount_95d88_28 : decode cJ13_bitCount_95d88 28 = .ok (.ladd, 1) := by decide +kernel
theorem dJ13_bitCount_95d88_29 : decode cJ13_bitCount_95d88 29 = .ok (.ldc2_w 318, 3) := by decide +kernel
theorem dJ13_bitCount_95d88_32 : decode cJ13_bitCount_95d88 32 = .ok (.land, 1) := by decide +kernel
theorem dJ13_bitCount_95d88_33 : decode cJ13_bitCount_95d88 33 = .ok (.lstore_n 0, 1) := by decide +kernel
theorem dJ13_bitCount_95d88_34 : decode cJ13_bitCount_95d88 34 = .ok (.lload_n 0, 1) := by decide +kernel
theorem dJ13_bitCount_95d88_35 : decode cJ13_bitCount_95d88 35 = .ok (.lload_n 0, 1) := by decide +kernel
theorem dJ13_bitCount_95d88_36 : decode cJ13_bitCount_95d88 36 = .ok (.bipush 8, 2) := by decide +kernel
theorem dJ13_bitCount_95d88_38 : decode cJ13_bitCount_95d88 38 = .ok (.lushr, 1) := by decide +kernel
theorem dJ13_bitCount_95d88_39 : decode cJ13_bitCount_95d88 39 = .ok (.ladd, 1) := by decide +kernel
theorem dJ13_bitCount_95d88_40 : decode cJ13_bitCount_95d88 40 = .ok (.lstore_n 0, 1) := by decide +kernel
theorem dJ13_bitCount_95d88_41 : decode cJ13_bitCount_95d88 41 = .ok (.lload_n 0, 1) := by decide +kernel
theorem dJ13_bitCount_95d88_42 : decode cJ13_bitCount_95d88 42 = .ok (.lload_n 0, 1) := by decide +kernel
theorem dJ13_bitCount_95d88_43 : decode cJ13_bitCount_95d88 43 = .ok (.bipush 16, 2) := by decide +kernel
theorem dJ13_bitCount_95d88_45 : decode cJ13_bitCount_95d88 45 = .ok (.lushr, 1) := by decide +kernel
theorem dJ13_bitCount_95d88_46 : decode cJ13_bitCount_95d88 46 = .ok (.ladd, 1) := by decide +kernel
theorem dJ13_bitCount_95d88_47 : decode cJ13_bitCount_95d88 47 = .ok (.lstore_n 0, 1) := by decide +kernel
theorem dJ13_bitCount_95d88_48 : decode cJ13_bitCount_95d88 48 = .ok (.lload_n 0, 1) := by decide +kernel
theorem dJ13_bitCount_95d88_49 : decode cJ13_bitCount_95d88 49 = .ok (.lload_n 0, 1) := by decide +kernel
theorem dJ13_bitCount_95d88_50 : decode cJ13_bitCount_95d88 50 = .ok (.bipush 32, 2) := by decide +kernel
theorem dJ13_bitCount_95d88_52 : decode cJ13_bitCount_95d88 52 = .ok (.lushr, 1) := by decide +kernel
theorem dJ13_bitCount_95d88_53 : decode cJ13_bitCount_95d88 53 = .ok (.ladd, 1) := by decide +kernel
theorem dJ13_bitCount_95d88_54 : decode cJ13_bitCount_95d88 54 = .ok (.lstore_n 0, 1) := by decide +kernel
theorem dJ13_bitCount_95d88_55 : decode cJ13_bitCount_95d88 55 = .ok (.lload_n 0, 1) := by decide +kernel
theorem dJ13_bitCount_95d88_56 : decode cJ13_bitCount_95d88 56 = .ok (.l2i, 1) := by decide +kernel
theorem dJ13_bitCount_95d88_57 : decode cJ13_bitCount_95d88 57 = .ok (.bipush 127, 2) := by decide +kernel
theorem dJ13_bitCount_95d88_59 : decode cJ13_bitCount_95d88 59 = .ok (.iand, 1) := by decide +kernel
theorem dJ13_bitCount_95d88_60 : decode cJ13_bitCount_95d88 60 = .ok (.ireturn, 1) := by decide +kernel
theorem dJ9_floorMod_7cf53_0 : decode cJ9_floorMod_7cf53 0 = .ok (.iload_n 0, 1) := by decide +kernel
theorem dJ9_floorMod_7cf53_1 : decode cJ9_floorMod_7cf53 1 = .ok (.iload_n 1, 1) := by decide +kernel
theorem dJ9_floorMod_7cf53_2 : decode cJ9_floorMod_7cf53 2 = .ok (.irem, 1) := by decide +kernel
theorem dJ9_floorMod_7cf53_3 : decode cJ9_floorMod_7cf53 3 = .ok (.istore_n 2, 1) := by decide +kernel
theorem dJ9_floorMod_7cf53_4 : decode cJ9_floorMod_7cf53 4 = .ok (.iload_n 0, 1) := by decide +kernel
theorem dJ9_floorMod_7cf53_5 : decode cJ9_floorMod_7cf53 5 = .ok (.iload_n 1, 1) := by decide +kernel
theorem dJ9_floorMod_7cf53_6 : decode cJ9_floorMod_7cf53 6 = .ok (.ixor, 1) := by decide +kernel
theorem dJ9_floorMod_7cf53_7 : decode cJ9_floorMod_7cf53 7 = .ok (.ifCond .ge 11, 3) := by decide +kernel
theorem dJ9_floorMod_7cf53_10 : decode cJ9_floorMod_7cf53 10 = .ok (.iload_n 2, 1) := by decide +kernel
theorem dJ9_floorMod_7cf53_11 : decode cJ9_floorMod_7cf53 11 = .ok (.ifCond .eq 7, 3) := by decide +kernel
theorem dJ9_floorMod_7cf53_14 : decode cJ9_floorMod_7cf53 14 = .ok (.iload_n 2, 1) := by decide +kernel
theorem dJ9_floorMod_7cf53_15 : decode cJ9_floorMod_7cf53 15 = .ok (.iload_n 1, 1) := by decide +kernel
theorem dJ9_floorMod_7cf53_16 : decode cJ9_floorMod_7cf53 16 = .ok (.iadd, 1) := by decide +kernel
theorem dJ9_floorMod_7cf53_17 : decode cJ9_floorMod_7cf53 17 = .ok (.ireturn, 1) := by decide +kernel
theorem dJ9_floorMod_7cf53_18 : decode cJ9_floorMod_7cf53 18 = .ok (.iload_n 2, 1) := by decide +kernel
theorem dJ9_floorMod_7cf53_19 : decode cJ9_floorMod_7cf53 19 = .ok (.ireturn, 1) := by decide +kernel
theorem dJ9_abs_0f7a4_0 : decode cJ9_abs_0f7a4 0 = .ok (.iload_n 0, 1) := by decide +kernel
theorem dJ9_abs_0f7a4_1 : decode cJ9_abs_0f7a4 1 = .ok (.ifCond .ge 8, 3) := by decide +kernel
theorem dJ9_abs_0f7a4_4 : decode cJ9_abs_0f7a4 4 = .ok (.iload_n 0, 1) := by decide +kernel
theorem dJ9_abs_0f7a4_5 : decode cJ9_abs_0f7a4 5 = .ok (.ineg, 1) := by decide +kernel
theorem dJ9_abs_0f7a4_6 : decode cJ9_abs_0f7a4 6 = .ok (.goto 4, 3) := by decide +kernel
theorem dJ9_abs_0f7a4_9 : decode cJ9_abs_0f7a4 9 = .ok (.iload_n 0, 1) := by decide +kernel
theorem dJ9_abs_0f7a4_10 : decode cJ9_abs_0f7a4 10 = .ok (.ireturn, 1) := by decide +kernel
theorem dJ9_max_7cf53_0 : decode cJ9_max_7cf53 0 = .ok (.iload_n 0, 1) := by decide +kernel
theorem dJ9_max_7cf53_1 : decode cJ9_max_7cf53 1 = .ok (.iload_n 1, 1) := by decide +kernel
theorem dJ9_max_7cf53_2 : decode cJ9_max_7cf53 2 = .ok (.if_icmp .lt 7, 3) := by decide +kernel
theorem dJ9_max_7cf53_5 : decode cJ9_max_7cf53 5 = .ok (.iload_n 0, 1) := by decide +kernel
theorem dJ9_max_7cf53_6 : decode cJ9_max_7cf53 6 = .ok (.goto 4, 3) := by decide +kernel
theorem dJ9_max_7cf53_9 : decode cJ9_max_7cf53 9 = .ok (.iload_n 1, 1) := by decide +kernel
theorem dJ9_max_7cf53_10 : decode cJ9_max_7cf53 10 = .ok (.ireturn, 1) := by decide +kernel
theorem dJ0_length_8abf5_0 : decode cJ0_length_8abf5 0 = .ok (.aload_n 0, 1) := by decide +kernel
theorem dJ0_length_8abf5_1 : decode cJ0_length_8abf5 1 = .ok (.getfield 9, 3) := by decide +kernel
theorem dJ0_length_8abf5_4 : decode cJ0_length_8abf5 4 = .ok (.arraylength, 1) := by decide +kernel
theorem dJ0_length_8abf5_5 : decode cJ0_length_8abf5 5 = .ok (.aload_n 0, 1) := by decide +kernel
theorem dJ0_length_8abf5_6 : decode cJ0_length_8abf5 6 = .ok (.invokevirtual 335, 3) := by decide +kernel
theorem dJ0_length_8abf5_9 : decode cJ0_length_8abf5 9 = .ok (.ishr, 1) := by decide +kernel
theorem dJ0_length_8abf5_10 : decode cJ0_length_8abf5 10 = .ok (.ireturn, 1) := by decide +kernel
theorem dJ0_isEmpty_aae02_0 : decode cJ0_isEmpty_aae02 0 = .ok (.aload_n 0, 1) := by decide +kernel
theorem dJ0_isEmpty_aae02_1 : decode cJ0_isEmpty_aae02 1 = .ok (.getfield 9, 3) := by decide +kernel
theorem dJ0_isEmpty_aae02_4 : decode cJ0_isEmpty_aae02 4 = .ok (.arraylength, 1) := by decide +kernel
theorem dJ0_isEmpty_aae02_5 : decode cJ0_isEmpty_aae02 5 = .ok (.ifCond .ne 7, 3) := by decide +kernel
theorem dJ0_isEmpty_aae02_8 : decode cJ0_isEmpty_aae02 8 = .ok (.iconst 1, 1) := by decide +kernel
theorem dJ0_isEmpty_aae02_9 : decode cJ0_isEmpty_aae02 9 = .ok (.goto 4, 3) := by decide +kernel
theorem dJ0_isEmpty_aae02_12 : decode cJ0_isEmpty_aae02 12 = .ok (.iconst 0, 1) := by decide +kernel
theorem dJ0_isEmpty_aae02_13 : decode cJ0_isEmpty_aae02 13 = .ok (.ireturn, 1) := by decide +kernel
theorem dJ0_charAt_5068e_0 : decode cJ0_charAt_5068e 0 = .ok (.aload_n 0, 1) := by decide +kernel
theorem dJ0_charAt_5068e_1 : decode cJ0_charAt_5068e 1 = .ok (.invokevirtual 492, 3) := by decide +kernel
theorem dJ0_charAt_5068e_4 : decode cJ0_charAt_5068e 4 = .ok (.ifCond .eq 12, 3) := by decide +kernel
theorem dJ0_charAt_5068e_7 : decode cJ0_charAt_5068e 7 = .ok (.aload_n 0, 1) := by decide +kernel
theorem dJ0_charAt_5068e_8 : decode cJ0_charAt_5068e 8 = .ok (.getfield 9, 3) := by decide +kernel
theorem dJ0_charAt_5068e_11 : decode cJ0_charAt_5068e 11 = .ok (.iload_n 1, 1) := by decide +kernel
theorem dJ0_charAt_5068e_12 : decode cJ0_charAt_5068e 12 = .ok (.invokestatic 495, 3) := by decide +kernel
theorem dJ0_charAt_5068e_15 : decode cJ0_charAt_5068e 15 = .ok (.ireturn, 1) := by decide +kernel
theorem dJ0_charAt_5068e_16 : decode cJ0_charAt_5068e 16 = .ok (.aload_n 0, 1) := by decide +kernel
theorem dJ0_charAt_5068e_17 : decode cJ0_charAt_5068e 17 = .ok (.getfield 9, 3) := by decide +kernel
theorem dJ0_charAt_5068e_20 : decode cJ0_charAt_5068e 20 = .ok (.iload_n 1, 1) := by decide +kernel
theorem dJ0_charAt_5068e_21 : decode cJ0_charAt_5068e 21 = .ok (.invokestatic 498, 3) := by decide +kernel
theorem dJ0_charAt_5068e_24 : decode cJ0_charAt_5068e 24 = .ok (.ireturn, 1) := by decide +kernel
theorem dJ0_coder_7d493_0 : decode cJ0_coder_7d493 0 = .ok (.getstatic 38, 3) := by decide +kernel
theorem dJ0_coder_7d493_3 : decode cJ0_coder_7d493 3 = .ok (.ifCond .eq 10, 3) := by decide +kernel
theorem dJ0_coder_7d493_6 : decode cJ0_coder_7d493 6 = .ok (.aload_n 0, 1) := by decide +kernel
theorem dJ0_coder_7d493_7 : decode cJ0_coder_7d493 7 = .ok (.getfield 15, 3) := by decide +kernel
theorem dJ0_coder_7d493_10 : decode cJ0_coder_7d493 10 = .ok (.goto 4, 3) := by decide +kernel
theorem dJ0_coder_7d493_13 : decode cJ0_coder_7d493 13 = .ok (.iconst 1, 1) := by decide +kernel
theorem dJ0_coder_7d493_14 : decode cJ0_coder_7d493 14 = .ok (.ireturn, 1) := by decide +kernel
theorem dJ0_isLatin1_aae02_0 : decode cJ0_isLatin1_aae02 0 = .ok (.getstatic 38, 3) := by decide +kernel
theorem dJ0_isLatin1_aae02_3 : decode cJ0_isLatin1_aae02 3 = .ok (.ifCond .eq 14, 3) := by decide +kernel
theorem dJ0_isLatin1_aae02_6 : decode cJ0_isLatin1_aae02 6 = .ok (.aload_n 0, 1) := by decide +kernel
theorem dJ0_isLatin1_aae02_7 : decode cJ0_isLatin1_aae02 7 = .ok (.getfield 15, 3) := by decide +kernel
theorem dJ0_isLatin1_aae02_10 : decode cJ0_isLatin1_aae02 10 = .ok (.ifCond .ne 7, 3) := by decide +kernel
theorem dJ0_isLatin1_aae02_13 : decode cJ0_isLatin1_aae02 13 = .ok (.iconst 1, 1) := by decide +kernel
theorem dJ0_isLatin1_aae02_14 : decode cJ0_isLatin1_aae02 14 = .ok (.goto 4, 3) := by decide +kernel
theorem dJ0_isLatin1_aae02_17 : decode cJ0_isLatin1_aae02 17 = .ok (.iconst 0, 1) := by decide +kernel
theorem dJ0_isLatin1_aae02_18 : decode cJ0_isLatin1_aae02 18 = .ok (.ireturn, 1) := by decide +kernel
theorem dJ0_checkIndex_df160_0 : decode cJ0_checkIndex_df160 0 = .ok (.iload_n 0, 1) := by decide +kernel
theorem dJ0_checkIndex_df160_1 : decode cJ0_checkIndex_df160 1 = .ok (.iload_n 1, 1) := by decide +kernel
theorem dJ0_checkIndex_df160_2 : decode cJ0_checkIndex_df160 2 = .ok (.getstatic 1053, 3) := by decide +kernel
theorem dJ0_checkIndex_df160_5 : decode cJ0_checkIndex_df160 5 = .ok (.invokestatic 1059, 3) := by decide +kernel
theorem dJ0_checkIndex_df160_8 : decode cJ0_checkIndex_df160 8 = .ok (.pop, 1) := by decide +kernel
theorem dJ0_checkIndex_df160_9 : decode cJ0_checkIndex_df160 9 = .ok (.return_, 1) := by decide +kernel
theorem dJ1_charAt_3b067_0 : decode cJ1_charAt_3b067 0 = .ok (.iload_n 1, 1) := by decide +kernel
theorem dJ1_charAt_3b067_1 : decode cJ1_charAt_3b067 1 = .ok (.aload_n 0, 1) := by decide +kernel
theorem dJ1_charAt_3b067_2 : decode cJ1_charAt_3b067 2 = .ok (.arraylength, 1) := by decide +kernel
theorem dJ1_charAt_3b067_3 : decode cJ1_charAt_3b067 3 = .ok (.invokestatic 9, 3) := by decide +kernel
theorem dJ1_charAt_3b067_6 : decode cJ1_charAt_3b067 6 = .ok (.aload_n 0, 1) := by decide +kernel
theorem dJ1_charAt_3b067_7 : decode cJ1_charAt_3b067 7 = .ok (.iload_n 1, 1) := by decide +kernel
theorem dJ1_charAt_3b067_8 : decode cJ1_charAt_3b067 8 = .ok (.baload, 1) := by decide +kernel
theorem dJ1_charAt_3b067_9 : decode cJ1_charAt_3b067 9 = .ok (.sipush 255, 3) := by decide +kernel
theorem dJ1_charAt_3b067_12 : decode cJ1_charAt_3b067 12 = .ok (.iand, 1) := by decide +kernel
theorem dJ1_charAt_3b067_13 : decode cJ1_charAt_3b067 13 = .ok (.i2c, 1) := by decide +kernel
theorem dJ1_charAt_3b067_14 : decode cJ1_charAt_3b067 14 = .ok (.ireturn, 1) := by decide +kernel
theorem dJ2_getChar_3b067_0 : decode cJ2_getChar_3b067 0 = .ok (.getstatic 44, 3) := by decide +kernel
theorem dJ2_getChar_3b067_3 : decode cJ2_getChar_3b067 3 = .ok (.ifCond .ne 25, 3) := by decide +kernel
theorem dJ2_getChar_3b067_6 : decode cJ2_getChar_3b067 6 = .ok (.iload_n 1, 1) := by decide +kernel
theorem dJ2_getChar_3b067_7 : decode cJ2_getChar_3b067 7 = .ok (.ifCond .lt 11, 3) := by decide +kernel
theorem dJ2_getChar_3b067_10 : decode cJ2_getChar_3b067 10 = .ok (.iload_n 1, 1) := by decide +kernel
theorem dJ2_getChar_3b067_11 : decode cJ2_getChar_3b067 11 = .ok (.aload_n 0, 1) := by decide +kernel
theorem dJ2_getChar_3b067_12 : decode cJ2_getChar_3b067 12 = .ok (.invokestatic 48, 3) := by decide +kernel
theorem dJ2_getChar_3b067_15 : decode cJ2_getChar_3b067 15 = .ok (.if_icmp .lt 13, 3) := by decide +kernel
theorem dJ2_getChar_3b067_18 : decode cJ2_getChar_3b067 18 = .ok (.new 52, 3) := by decide +kernel
theorem dJ2_getChar_3b067_21 : decode cJ2_getChar_3b067 21 = .ok (.dup, 1) := by decide +kernel
theorem dJ2_getChar_3b067_22 : decode cJ2_getChar_3b067 22 = .ok (.ldc 54, 2) := by decide +kernel
theorem dJ2_getChar_3b067_24 : decode cJ2_getChar_3b067 24 = .ok (.invokespecial 56, 3) := by decide +kernel
theorem dJ2_getChar_3b067_27 : decode cJ2_getChar_3b067 27 = .ok (.athrow, 1) := by decide +kernel
theorem dJ2_getChar_3b067_28 : decode cJ2_getChar_3b067 28 = .ok (.iload_n 1, 1) := by decide +kernel
theorem dJ2_getChar_3b067_29 : decode cJ2_getChar_3b067 29 = .ok (.iconst 1, 1) := by decide +kernel
theorem dJ2_getChar_3b067_30 : decode cJ2_getChar_3b067 30 = .ok (.ishl, 1) := by decide +kernel
theorem dJ2_getChar_3b067_31 : decode cJ2_getChar_3b067 31 = .ok (.istore_n 1, 1) := by decide +kernel
theorem dJ2_getChar_3b067_32 : decode cJ2_getChar_3b067 32 = .ok (.aload_n 0, 1) := by decide +kernel
theorem dJ2_getChar_3b067_33 : decode cJ2_getChar_3b067 33 = .ok (.iload_n 1, 1) := by decide +kernel
theorem dJ2_getChar_3b067_34 : decode cJ2_getChar_3b067 34 = .ok (.iinc 1 1, 3) := by decide +kernel
theorem dJ2_getChar_3b067_37 : decode cJ2_getChar_3b067 37 = .ok (.baload, 1) := by decide +kernel
theorem dJ2_getChar_3b067_38 : decode cJ2_getChar_3b067 38 = .ok (.sipush 255, 3) := by decide +kernel
theorem dJ2_getChar_3b067_41 : decode cJ2_getChar_3b067 41 = .ok (.iand, 1) := by decide +kernel
theorem dJ2_getChar_3b067_42 : decode cJ2_getChar_3b067 42 = .ok (.getstatic 59, 3) := by decide +kernel
theorem dJ2_getChar_3b067_45 : decode cJ2_getChar_3b067 45 = .ok (.ishl, 1) := by decide +kernel
theorem dJ2_getChar_3b067_46 : decode cJ2_getChar_3b067 46 = .ok (.aload_n 0, 1) := by decide +kernel
theorem dJ2_getChar_3b067_47 : decode cJ2_getChar_3b067 47 = .ok (.iload_n 1, 1) := by decide +kernel
theorem dJ2_getChar_3b067_48 : decode cJ2_getChar_3b067 48 = .ok (.baload, 1) := by decide +kernel
theorem dJ2_getChar_3b067_49 : decode cJ2_getChar_3b067 49 = .ok (.sipush 255, 3) := by decide +kernel
theorem dJ2_getChar_3b067_52 : decode cJ2_getChar_3b067 52 = .ok (.iand, 1) := by decide +kernel
theorem dJ2_getChar_3b067_53 : decode cJ2_getChar_3b067 53 = .ok (.getstatic 63, 3) := by decide +kernel
theorem dJ2_getChar_3b067_56 : decode cJ2_getChar_3b067 56 = .ok (.ishl, 1) := by decide +kernel
theorem dJ2_getChar_3b067_57 : decode cJ2_getChar_3b067 57 = .ok (.ior, 1) := by decide +kernel
theorem dJ2_getChar_3b067_58 : decode cJ2_getChar_3b067 58 = .ok (.i2c, 1) := by decide +kernel
theorem dJ2_getChar_3b067_59 : decode cJ2_getChar_3b067 59 = .ok (.ireturn, 1) := by decide +kernel
theorem dJ2_length_9d52b_0 : decode cJ2_length_9d52b 0 = .ok (.aload_n 0, 1) := by decide +kernel
theorem dJ2_length_9d52b_1 : decode cJ2_length_9d52b 1 = .ok (.arraylength, 1) := by decide +kernel
theorem dJ2_length_9d52b_2 : decode cJ2_length_9d52b 2 = .ok (.iconst 1, 1) := by decide +kernel
theorem dJ2_length_9d52b_3 : decode cJ2_length_9d52b 3 = .ok (.ishr, 1) := by decide +kernel
theorem dJ2_length_9d52b_4 : decode cJ2_length_9d52b 4 = .ok (.ireturn, 1) := by decide +kernel
theorem dJ2_charAt_3b067_0 : decode cJ2_charAt_3b067 0 = .ok (.iload_n 1, 1) := by decide +kernel
theorem dJ2_charAt_3b067_1 : decode cJ2_charAt_3b067 1 = .ok (.aload_n 0, 1) := by decide +kernel
theorem dJ2_charAt_3b067_2 : decode cJ2_charAt_3b067 2 = .ok (.invokestatic 67, 3) := by decide +kernel
theorem dJ2_charAt_3b067_5 : decode cJ2_charAt_3b067 5 = .ok (.aload_n 0, 1) := by decide +kernel
theorem dJ2_charAt_3b067_6 : decode cJ2_charAt_3b067 6 = .ok (.iload_n 1, 1) := by decide +kernel
theorem dJ2_charAt_3b067_7 : decode cJ2_charAt_3b067 7 = .ok (.invokestatic 71, 3) := by decide +kernel
theorem dJ2_charAt_3b067_10 : decode cJ2_charAt_3b067 10 = .ok (.ireturn, 1) := by decide +kernel
theorem dJ2_checkIndex_2214a_0 : decode cJ2_checkIndex_2214a 0 = .ok (.iload_n 0, 1) := by decide +kernel
theorem dJ2_checkIndex_2214a_1 : decode cJ2_checkIndex_2214a 1 = .ok (.aload_n 1, 1) := by decide +kernel
theorem dJ2_checkIndex_2214a_2 : decode cJ2_checkIndex_2214a 2 = .ok (.invokestatic 48, 3) := by decide +kernel
theorem dJ2_checkIndex_2214a_5 : decode cJ2_checkIndex_2214a 5 = .ok (.invokestatic 414, 3) := by decide +kernel
theorem dJ2_checkIndex_2214a_8 : decode cJ2_checkIndex_2214a 8 = .ok (.return_, 1) := by decide +kernel
theorem dJ3_checkIndex_8e157_0 : decode cJ3_checkIndex_8e157 0 = .ok (.iload_n 0, 1) := by decide +kernel
theorem dJ3_checkIndex_8e157_1 : decode cJ3_checkIndex_8e157 1 = .ok (.ifCond .lt 8, 3) := by decide +kernel
theorem dJ3_checkIndex_8e157_4 : decode cJ3_checkIndex_8e157 4 = .ok (.iload_n 0, 1) := by decide +kernel
theorem dJ3_checkIndex_8e157_5 : decode cJ3_checkIndex_8e157 5 = .ok (.iload_n 1, 1) := by decide +kernel
theorem dJ3_checkIndex_8e157_6 : decode cJ3_checkIndex_8e157 6 = .ok (.if_icmp .lt 10, 3) := by decide +kernel
theorem dJ3_checkIndex_8e157_9 : decode cJ3_checkIndex_8e157 9 = .ok (.aload_n 2, 1) := by decide +kernel
theorem dJ3_checkIndex_8e157_10 : decode cJ3_checkIndex_8e157 10 = .ok (.iload_n 0, 1) := by decide +kernel
theorem dJ3_checkIndex_8e157_11 : decode cJ3_checkIndex_8e157 11 = .ok (.iload_n 1, 1) := by decide +kernel
theorem dJ3_checkIndex_8e157_12 : decode cJ3_checkIndex_8e157 12 = .ok (.invokestatic 95, 3) := by decide +kernel
theorem dJ3_checkIndex_8e157_15 : decode cJ3_checkIndex_8e157 15 = .ok (.athrow, 1) := by decide +kernel
theorem dJ3_checkIndex_8e157_16 : decode cJ3_checkIndex_8e157 16 = .ok (.iload_n 0, 1) := by decide +kernel
theorem dJ3_checkIndex_8e157_17 : decode cJ3_checkIndex_8e157 17 = .ok (.ireturn, 1) := by decide +kernel
theorem dL_law_0 : decode cL_law 0 = .ok (.new 7, 3) := by decide +kernel
theorem dL_law_3 : decode cL_law 3 = .ok (.dup, 1) := by decide +kernel
theorem dL_law_4 : decode cL_law 4 = .ok (.invokespecial 9, 3) := by decide +kernel
theorem dL_law_7 : decode cL_law 7 = .ok (.astore_n 1, 1) := by decide +kernel
theorem dL_law_8 : decode cL_law 8 = .ok (.new 10, 3) := by decide +kernel
theorem dL_law_11 : decode cL_law 11 = .ok (.dup, 1) := by decide +kernel
theorem dL_law_12 : decode cL_law 12 = .ok (.invokespecial 12, 3) := by decide +kernel
theorem dL_law_15 : decode cL_law 15 = .ok (.astore_n 2, 1) := by decide +kernel
theorem dL_law_16 : decode cL_law 16 = .ok (.iconst 0, 1) := by decide +kernel
theorem dL_law_17 : decode cL_law 17 = .ok (.istore_n 3, 1) := by decide +kernel
theorem dL_law_18 : decode cL_law 18 = .ok (.iload_n 3, 1) := by decide +kernel
theorem dL_law_19 : decode cL_law 19 = .ok (.aload_n 0, 1) := by decide +kernel
theorem dL_law_20 : decode cL_law 20 = .ok (.arraylength, 1) := by decide +kernel
theorem dL_law_21 : decode cL_law 21 = .ok (.iconst 4, 1) := by decide +kernel
theorem dL_law_22 : decode cL_law 22 = .ok (.isub, 1) := by decide +kernel
theorem dL_law_23 : decode cL_law 23 = .ok (.if_icmp .gt 717, 3) := by decide +kernel
theorem dL_law_26 : decode cL_law 26 = .ok (.aload_n 0, 1) := by decide +kernel
theorem dL_law_27 : decode cL_law 27 = .ok (.iload_n 3, 1) := by decide +kernel
theorem dL_law_28 : decode cL_law 28 = .ok (.iaload, 1) := by decide +kernel
theorem dL_law_29 : decode cL_law 29 = .ok (.bipush 31, 2) := by decide +kernel
theorem dL_law_31 : decode cL_law 31 = .ok (.iand, 1) := by decide +kernel
theorem dL_law_32 : decode cL_law 32 = .ok (.tableswitch 702 0 21 #[104, 137, 180, 223, 246, 279, 322, 335, 358, 371, 396, 409, 422, 435, 448, 481, 514, 547, 580, 613, 656, 679], 104) := by decide +kernel
theorem dL_law_136 : decode cL_law 136 = .ok (.aload_n 1, 1) := by decide +kernel
theorem dL_law_137 : decode cL_law 137 = .ok (.aload_n 0, 1) := by decide +kernel
theorem dL_law_138 : decode cL_law 138 = .ok (.iload_n 3, 1) := by decide +kernel
theorem dL_law_139 : decode cL_law 139 = .ok (.iconst 1, 1) := by decide +kernel
theorem dL_law_140 : decode cL_law 140 = .ok (.iadd, 1) := by decide +kernel
theorem dL_law_141 : decode cL_law 141 = .ok (.iaload, 1) := by decide +kernel
theorem dL_law_142 : decode cL_law 142 = .ok (.aload_n 0, 1) := by decide +kernel
theorem dL_law_143 : decode cL_law 143 = .ok (.iload_n 3, 1) := by decide +kernel
theorem dL_law_144 : decode cL_law 144 = .ok (.iconst 2, 1) := by decide +kernel
theorem dL_law_145 : decode cL_law 145 = .ok (.iadd, 1) := by decide +kernel
theorem dL_law_146 : decode cL_law 146 = .ok (.iaload, 1) := by decide +kernel
theorem dL_law_147 : decode cL_law 147 = .ok (.invokevirtual 13, 3) := by decide +kernel
theorem dL_law_150 : decode cL_law 150 = .ok (.aload_n 2, 1) := by decide +kernel
theorem dL_law_151 : decode cL_law 151 = .ok (.aload_n 0, 1) := by decide +kernel
theorem dL_law_152 : decode cL_law 152 = .ok (.iload_n 3, 1) := by decide +kernel
theorem dL_law_153 : decode cL_law 153 = .ok (.iconst 1, 1) := by decide +kernel
theorem dL_law_154 : decode cL_law 154 = .ok (.iadd, 1) := by decide +kernel
theorem dL_law_155 : decode cL_law 155 = .ok (.iaload, 1) := by decide +kernel
theorem dL_law_156 : decode cL_law 156 = .ok (.aload_n 0, 1) := by decide +kernel
theorem dL_law_157 : decode cL_law 157 = .ok (.iload_n 3, 1) := by decide +kernel
theorem dL_law_158 : decode cL_law 158 = .ok (.iconst 2, 1) := by decide +kernel
theorem dL_law_159 : decode cL_law 159 = .ok (.iadd, 1) := by decide +kernel
theorem dL_law_160 : decode cL_law 160 = .ok (.iaload, 1) := by decide +kernel
theorem dL_law_161 : decode cL_law 161 = .ok (.invokevirtual 17, 3) := by decide +kernel
theorem dL_law_164 : decode cL_law 164 = .ok (.if_icmp .eq 570, 3) := by decide +kernel
theorem dL_law_167 : decode cL_law 167 = .ok (.iconst 0, 1) := by decide +kernel
theorem dL_law_168 : decode cL_law 168 = .ok (.ireturn, 1) := by decide +kernel
theorem dL_law_169 : decode cL_law 169 = .ok (.aload_n 1, 1) := by decide +kernel
theorem dL_law_170 : decode cL_law 170 = .ok (.aload_n 0, 1) := by decide +kernel
theorem dL_law_171 : decode cL_law 171 = .ok (.iload_n 3, 1) := by decide +kernel
theorem dL_law_172 : decode cL_law 172 = .ok (.iconst 1, 1) := by decide +kernel
theorem dL_law_173 : decode cL_law 173 = .ok (.iadd, 1) := by decide +kernel
theorem dL_law_174 : decode cL_law 174 = .ok (.iaload, 1) := by decide +kernel
theorem dL_law_175 : decode cL_law 175 = .ok (.aload_n 0, 1) := by decide +kernel
theorem dL_law_176 : decode cL_law 176 = .ok (.iload_n 3, 1) := by decide +kernel
theorem dL_law_177 : decode cL_law 177 = .ok (.iconst 2, 1) := by decide +kernel
theorem dL_law_178 : decode cL_law 178 = .ok (.iadd, 1) := by decide +kernel
theorem dL_law_179 : decode cL_law 179 = .ok (.iaload, 1) := by decide +kernel
theorem dL_law_180 : decode cL_law 180 = .ok (.aload_n 0, 1) := by decide +kernel
theorem dL_law_181 : decode cL_law 181 = .ok (.iload_n 3, 1) := by decide +kernel
theorem dL_law_182 : decode cL_law 182 = .ok (.iconst 3, 1) := by decide +kernel
theorem dL_law_183 : decode cL_law 183 = .ok (.iadd, 1) := by decide +kernel
theorem dL_law_184 : decode cL_law 184 = .ok (.iaload, 1) := by decide +kernel
theorem dL_law_185 : decode cL_law 185 = .ok (.invokevirtual 18, 3) := by decide +kernel
theorem dL_law_188 : decode cL_law 188 = .ok (.aload_n 2, 1) := by decide +kernel
theorem dL_law_189 : decode cL_law 189 = .ok (.aload_n 0, 1) := by decide +kernel
theorem dL_law_190 : decode cL_law 190 = .ok (.iload_n 3, 1) := by decide +kernel
theorem dL_law_191 : decode cL_law 191 = .ok (.iconst 1, 1) := by decide +kernel
theorem dL_law_192 : decode cL_law 192 = .ok (.iadd, 1) := by decide +kernel
theorem dL_law_193 : decode cL_law 193 = .ok (.iaload, 1) := by decide +kernel
theorem dL_law_194 : decode cL_law 194 = .ok (.aload_n 0, 1) := by decide +kernel
theorem dL_law_195 : decode cL_law 195 = .ok (.iload_n 3, 1) := by decide +kernel
theorem dL_law_196 : decode cL_law 196 = .ok (.iconst 2, 1) := by decide +kernel
theorem dL_law_197 : decode cL_law 197 = .ok (.iadd, 1) := by decide +kernel
theorem dL_law_198 : decode cL_law 198 = .ok (.iaload, 1) := by decide +kernel
theorem dL_law_199 : decode cL_law 199 = .ok (.aload_n 0, 1) := by decide +kernel
theorem dL_law_200 : decode cL_law 200 = .ok (.iload_n 3, 1) := by decide +kernel
theorem dL_law_201 : decode cL_law 201 = .ok (.iconst 3, 1) := by decide +kernel
theorem dL_law_202 : decode cL_law 202 = .ok (.iadd, 1) := by decide +kernel
theorem dL_law_203 : decode cL_law 203 = .ok (.iaload, 1) := by decide +kernel
theorem dL_law_204 : decode cL_law 204 = .ok (.invokevirtual 22, 3) := by decide +kernel
theorem dL_law_207 : decode cL_law 207 = .ok (.if_icmp .eq 527, 3) := by decide +kernel
theorem dL_law_210 : decode cL_law 210 = .ok (.iconst 0, 1) := by decide +kernel
theorem dL_law_211 : decode cL_law 211 = .ok (.ireturn, 1) := by decide +kernel
theorem dL_law_212 : decode cL_law 212 = .ok (.aload_n 1, 1) := by decide +kernel
theorem dL_law_213 : decode cL_law 213 = .ok (.aload_n 0, 1) := by decide +kernel
theorem dL_law_214 : decode cL_law 214 = .ok (.iload_n 3, 1) := by decide +kernel
theorem dL_law_215 : decode cL_law 215 = .ok (.iconst 1, 1) := by decide +kernel
theorem dL_law_216 : decode cL_law 216 = .ok (.iadd, 1) := by decide +kernel
theorem dL_law_217 : decode cL_law 217 = .ok (.iaload, 1) := by decide +kernel
theorem dL_law_218 : decode cL_law 218 = .ok (.aload_n 0, 1) := by decide +kernel
theorem dL_law_219 : decode cL_law 219 = .ok (.iload_n 3, 1) := by decide +kernel
theorem dL_law_220 : decode cL_law 220 = .ok (.iconst 2, 1) := by decide +kernel
theorem dL_law_221 : decode cL_law 221 = .ok (.iadd, 1) := by decide +kernel
theorem dL_law_222 : decode cL_law 222 = .ok (.iaload, 1) := by decide +kernel
theorem dL_law_223 : decode cL_law 223 = .ok (.aload_n 0, 1) := by decide +kernel
theorem dL_law_224 : decode cL_law 224 = .ok (.iload_n 3, 1) := by decide +kernel
theorem dL_law_225 : decode cL_law 225 = .ok (.iconst 3, 1) := by decide +kernel
theorem dL_law_226 : decode cL_law 226 = .ok (.iadd, 1) := by decide +kernel
theorem dL_law_227 : decode cL_law 227 = .ok (.iaload, 1) := by decide +kernel
theorem dL_law_228 : decode cL_law 228 = .ok (.invokevirtual 23, 3) := by decide +kernel
theorem dL_law_231 : decode cL_law 231 = .ok (.aload_n 2, 1) := by decide +kernel
theorem dL_law_232 : decode cL_law 232 = .ok (.aload_n 0, 1) := by decide +kernel
theorem dL_law_233 : decode cL_law 233 = .ok (.iload_n 3, 1) := by decide +kernel
theorem dL_law_234 : decode cL_law 234 = .ok (.iconst 1, 1) := by decide +kernel
theorem dL_law_235 : decode cL_law 235 = .ok (.iadd, 1) := by decide +kernel
theorem dL_law_236 : decode cL_law 236 = .ok (.iaload, 1) := by decide +kernel
theorem dL_law_237 : decode cL_law 237 = .ok (.aload_n 0, 1) := by decide +kernel
theorem dL_law_238 : decode cL_law 238 = .ok (.iload_n 3, 1) := by decide +kernel
theorem dL_law_239 : decode cL_law 239 = .ok (.iconst 2, 1) := by decide +kernel
theorem dL_law_240 : decode cL_law 240 = .ok (.iadd, 1) := by decide +kernel
theorem dL_law_241 : decode cL_law 241 = .ok (.iaload, 1) := by decide +kernel
theorem dL_law_242 : decode cL_law 242 = .ok (.aload_n 0, 1) := by decide +kernel
theorem dL_law_243 : decode cL_law 243 = .ok (.iload_n 3, 1) := by decide +kernel
theorem dL_law_244 : decode cL_law 244 = .ok (.iconst 3, 1) := by decide +kernel
theorem dL_law_245 : decode cL_law 245 = .ok (.iadd, 1) := by decide +kernel
theorem dL_law_246 : decode cL_law 246 = .ok (.iaload, 1) := by decide +kernel
theorem dL_law_247 : decode cL_law 247 = .ok (.invokevirtual 26, 3) := by decide +kernel
theorem dL_law_250 : decode cL_law 250 = .ok (.if_icmp .eq 484, 3) := by decide +kernel
theorem dL_law_253 : decode cL_law 253 = .ok (.iconst 0, 1) := by decide +kernel
theorem dL_law_254 : decode cL_law 254 = .ok (.ireturn, 1) := by decide +kernel
theorem dL_law_255 : decode cL_law 255 = .ok (.aload_n 1, 1) := by decide +kernel
theorem dL_law_256 : decode cL_law 256 = .ok (.aload_n 0, 1) := by decide +kernel
theorem dL_law_257 : decode cL_law 257 = .ok (.iload_n 3, 1) := by decide +kernel
theorem dL_law_258 : decode cL_law 258 = .ok (.iconst 1, 1) := by decide +kernel
theorem dL_law_259 : decode cL_law 259 = .ok (.iadd, 1) := by decide +kernel
theorem dL_law_260 : decode cL_law 260 = .ok (.iaload, 1) := by decide +kernel
theorem dL_law_261 : decode cL_law 261 = .ok (.invokevirtual 27, 3) := by decide +kernel
theorem dL_law_264 : decode cL_law 264 = .ok (.aload_n 2, 1) := by decide +kernel
theorem dL_law_265 : decode cL_law 265 = .ok (.aload_n 0, 1) := by decide +kernel
theorem dL_law_266 : decode cL_law 266 = .ok (.iload_n 3, 1) := by decide +kernel
theorem dL_law_267 : decode cL_law 267 = .ok (.iconst 1, 1) := by decide +kernel
theorem dL_law_268 : decode cL_law 268 = .ok (.iadd, 1) := by decide +kernel
theorem dL_law_269 : decode cL_law 269 = .ok (.iaload, 1) := by decide +kernel
theorem dL_law_270 : decode cL_law 270 = .ok (.invokevirtual 31, 3) := by decide +kernel
theorem dL_law_273 : decode cL_law 273 = .ok (.if_icmp .eq 461, 3) := by decide +kernel
theorem dL_law_276 : decode cL_law 276 = .ok (.iconst 0, 1) := by decide +kernel
theorem dL_law_277 : decode cL_law 277 = .ok (.ireturn, 1) := by decide +kernel
theorem dL_law_278 : decode cL_law 278 = .ok (.aload_n 1, 1) := by decide +kernel
theorem dL_law_279 : decode cL_law 279 = .ok (.aload_n 0, 1) := by decide +kernel
theorem dL_law_280 : decode cL_law 280 = .ok (.iload_n 3, 1) := by decide +kernel
theorem dL_law_281 : decode cL_law 281 = .ok (.iconst 1, 1) := by decide +kernel
theorem dL_law_282 : decode cL_law 282 = .ok (.iadd, 1) := by decide +kernel
theorem dL_law_283 : decode cL_law 283 = .ok (.iaload, 1) := by decide +kernel
theorem dL_law_284 : decode cL_law 284 = .ok (.aload_n 0, 1) := by decide +kernel
theorem dL_law_285 : decode cL_law 285 = .ok (.iload_n 3, 1) := by decide +kernel
theorem dL_law_286 : decode cL_law 286 = .ok (.iconst 2, 1) := by decide +kernel
theorem dL_law_287 : decode cL_law 287 = .ok (.iadd, 1) := by decide +kernel
theorem dL_law_288 : decode cL_law 288 = .ok (.iaload, 1) := by decide +kernel
theorem dL_law_289 : decode cL_law 289 = .ok (.invokevirtual 32, 3) := by decide +kernel
theorem dL_law_292 : decode cL_law 292 = .ok (.aload_n 2, 1) := by decide +kernel
theorem dL_law_293 : decode cL_law 293 = .ok (.aload_n 0, 1) := by decide +kernel
theorem dL_law_294 : decode cL_law 294 = .ok (.iload_n 3, 1) := by decide +kernel
theorem dL_law_295 : decode cL_law 295 = .ok (.iconst 1, 1) := by decide +kernel
theorem dL_law_296 : decode cL_law 296 = .ok (.iadd, 1) := by decide +kernel
theorem dL_law_297 : decode cL_law 297 = .ok (.iaload, 1) := by decide +kernel
theorem dL_law_298 : decode cL_law 298 = .ok (.aload_n 0, 1) := by decide +kernel
theorem dL_law_299 : decode cL_law 299 = .ok (.iload_n 3, 1) := by decide +kernel
theorem dL_law_300 : decode cL_law 300 = .ok (.iconst 2, 1) := by decide +kernel
theorem dL_law_301 : decode cL_law 301 = .ok (.iadd, 1) := by decide +kernel
theorem dL_law_302 : decode cL_law 302 = .ok (.iaload, 1) := by decide +kernel
theorem dL_law_303 : decode cL_law 303 = .ok (.invokevirtual 35, 3) := by decide +kernel
theorem dL_law_306 : decode cL_law 306 = .ok (.if_icmp .eq 428, 3) := by decide +kernel
theorem dL_law_309 : decode cL_law 309 = .ok (.iconst 0, 1) := by decide +kernel
theorem dL_law_310 : decode cL_law 310 = .ok (.ireturn, 1) := by decide +kernel
theorem dL_law_311 : decode cL_law 311 = .ok (.aload_n 1, 1) := by decide +kernel
theorem dL_law_312 : decode cL_law 312 = .ok (.aload_n 0, 1) := by decide +kernel
theorem dL_law_313 : decode cL_law 313 = .ok (.iload_n 3, 1) := by decide +kernel
theorem dL_law_314 : decode cL_law 314 = .ok (.iconst 1, 1) := by decide +kernel
theorem dL_law_315 : decode cL_law 315 = .ok (.iadd, 1) := by decide +kernel
theorem dL_law_316 : decode cL_law 316 = .ok (.iaload, 1) := by decide +kernel
theorem dL_law_317 : decode cL_law 317 = .ok (.aload_n 0, 1) := by decide +kernel
theorem dL_law_318 : decode cL_law 318 = .ok (.iload_n 3, 1) := by decide +kernel
theorem dL_law_319 : decode cL_law 319 = .ok (.iconst 2, 1) := by decide +kernel
theorem dL_law_320 : decode cL_law 320 = .ok (.iadd, 1) := by decide +kernel
theorem dL_law_321 : decode cL_law 321 = .ok (.iaload, 1) := by decide +kernel
theorem dL_law_322 : decode cL_law 322 = .ok (.aload_n 0, 1) := by decide +kernel
theorem dL_law_323 : decode cL_law 323 = .ok (.iload_n 3, 1) := by decide +kernel
theorem dL_law_324 : decode cL_law 324 = .ok (.iconst 3, 1) := by decide +kernel
theorem dL_law_325 : decode cL_law 325 = .ok (.iadd, 1) := by decide +kernel
theorem dL_law_326 : decode cL_law 326 = .ok (.iaload, 1) := by decide +kernel
theorem dL_law_327 : decode cL_law 327 = .ok (.invokevirtual 36, 3) := by decide +kernel
theorem dL_law_330 : decode cL_law 330 = .ok (.aload_n 2, 1) := by decide +kernel
theorem dL_law_331 : decode cL_law 331 = .ok (.aload_n 0, 1) := by decide +kernel
theorem dL_law_332 : decode cL_law 332 = .ok (.iload_n 3, 1) := by decide +kernel
theorem dL_law_333 : decode cL_law 333 = .ok (.iconst 1, 1) := by decide +kernel
theorem dL_law_334 : decode cL_law 334 = .ok (.iadd, 1) := by decide +kernel
theorem dL_law_335 : decode cL_law 335 = .ok (.iaload, 1) := by decide +kernel
theorem dL_law_336 : decode cL_law 336 = .ok (.aload_n 0, 1) := by decide +kernel
theorem dL_law_337 : decode cL_law 337 = .ok (.iload_n 3, 1) := by decide +kernel
theorem dL_law_338 : decode cL_law 338 = .ok (.iconst 2, 1) := by decide +kernel
theorem dL_law_339 : decode cL_law 339 = .ok (.iadd, 1) := by decide +kernel
theorem dL_law_340 : decode cL_law 340 = .ok (.iaload, 1) := by decide +kernel
theorem dL_law_341 : decode cL_law 341 = .ok (.aload_n 0, 1) := by decide +kernel
theorem dL_law_342 : decode cL_law 342 = .ok (.iload_n 3, 1) := by decide +kernel
theorem dL_law_343 : decode cL_law 343 = .ok (.iconst 3, 1) := by decide +kernel
theorem dL_law_344 : decode cL_law 344 = .ok (.iadd, 1) := by decide +kernel
theorem dL_law_345 : decode cL_law 345 = .ok (.iaload, 1) := by decide +kernel
theorem dL_law_346 : decode cL_law 346 = .ok (.invokevirtual 39, 3) := by decide +kernel
theorem dL_law_349 : decode cL_law 349 = .ok (.if_icmp .eq 385, 3) := by decide +kernel
theorem dL_law_352 : decode cL_law 352 = .ok (.iconst 0, 1) := by decide +kernel
theorem dL_law_353 : decode cL_law 353 = .ok (.ireturn, 1) := by decide +kernel
theorem dL_law_354 : decode cL_law 354 = .ok (.aload_n 1, 1) := by decide +kernel
theorem dL_law_355 : decode cL_law 355 = .ok (.invokevirtual 40, 3) := by decide +kernel
theorem dL_law_358 : decode cL_law 358 = .ok (.aload_n 2, 1) := by decide +kernel
theorem dL_law_359 : decode cL_law 359 = .ok (.invokevirtual 44, 3) := by decide +kernel
theorem dL_law_362 : decode cL_law 362 = .ok (.if_icmp .eq 372, 3) := by decide +kernel
theorem dL_law_365 : decode cL_law 365 = .ok (.iconst 0, 1) := by decide +kernel
theorem dL_law_366 : decode cL_law 366 = .ok (.ireturn, 1) := by decide +kernel
theorem dL_law_367 : decode cL_law 367 = .ok (.aload_n 1, 1) := by decide +kernel
theorem dL_law_368 : decode cL_law 368 = .ok (.aload_n 0, 1) := by decide +kernel
theorem dL_law_369 : decode cL_law 369 = .ok (.iload_n 3, 1) := by decide +kernel
theorem dL_law_370 : decode cL_law 370 = .ok (.iconst 1, 1) := by decide +kernel
theorem dL_law_371 : decode cL_law 371 = .ok (.iadd, 1) := by decide +kernel
theorem dL_law_372 : decode cL_law 372 = .ok (.iaload, 1) := by decide +kernel
theorem dL_law_373 : decode cL_law 373 = .ok (.invokevirtual 45, 3) := by decide +kernel
theorem dL_law_376 : decode cL_law 376 = .ok (.aload_n 2, 1) := by decide +kernel
theorem dL_law_377 : decode cL_law 377 = .ok (.aload_n 0, 1) := by decide +kernel
theorem dL_law_378 : decode cL_law 378 = .ok (.iload_n 3, 1) := by decide +kernel
theorem dL_law_379 : decode cL_law 379 = .ok (.iconst 1, 1) := by decide +kernel
theorem dL_law_380 : decode cL_law 380 = .ok (.iadd, 1) := by decide +kernel
theorem dL_law_381 : decode cL_law 381 = .ok (.iaload, 1) := by decide +kernel
theorem dL_law_382 : decode cL_law 382 = .ok (.invokevirtual 48, 3) := by decide +kernel
theorem dL_law_385 : decode cL_law 385 = .ok (.if_icmp .eq 349, 3) := by decide +kernel
theorem dL_law_388 : decode cL_law 388 = .ok (.iconst 0, 1) := by decide +kernel
theorem dL_law_389 : decode cL_law 389 = .ok (.ireturn, 1) := by decide +kernel
theorem dL_law_390 : decode cL_law 390 = .ok (.aload_n 1, 1) := by decide +kernel
theorem dL_law_391 : decode cL_law 391 = .ok (.invokevirtual 49, 3) := by decide +kernel
theorem dL_law_394 : decode cL_law 394 = .ok (.aload_n 2, 1) := by decide +kernel
theorem dL_law_395 : decode cL_law 395 = .ok (.invokevirtual 52, 3) := by decide +kernel
theorem dL_law_398 : decode cL_law 398 = .ok (.if_icmp .eq 336, 3) := by decide +kernel
theorem dL_law_401 : decode cL_law 401 = .ok (.iconst 0, 1) := by decide +kernel
theorem dL_law_402 : decode cL_law 402 = .ok (.ireturn, 1) := by decide +kernel
theorem dL_law_403 : decode cL_law 403 = .ok (.aload_n 1, 1) := by decide +kernel
theorem dL_law_404 : decode cL_law 404 = .ok (.aload_n 0, 1) := by decide +kernel
theorem dL_law_405 : decode cL_law 405 = .ok (.iload_n 3, 1) := by decide +kernel
theorem dL_law_406 : decode cL_law 406 = .ok (.iconst 1, 1) := by decide +kernel
theorem dL_law_407 : decode cL_law 407 = .ok (.iadd, 1) := by decide +kernel
theorem dL_law_408 : decode cL_law 408 = .ok (.iaload, 1) := by decide +kernel
theorem dL_law_409 : decode cL_law 409 = .ok (.i2c, 1) := by decide +kernel
theorem dL_law_410 : decode cL_law 410 = .ok (.invokevirtual 53, 3) := by decide +kernel
theorem dL_law_413 : decode cL_law 413 = .ok (.aload_n 2, 1) := by decide +kernel
theorem dL_law_414 : decode cL_law 414 = .ok (.aload_n 0, 1) := by decide +kernel
theorem dL_law_415 : decode cL_law 415 = .ok (.iload_n 3, 1) := by decide +kernel
theorem dL_law_416 : decode cL_law 416 = .ok (.iconst 1, 1) := by decide +kernel
theorem dL_law_417 : decode cL_law 417 = .ok (.iadd, 1) := by decide +kernel
theorem dL_law_418 : decode cL_law 418 = .ok (.iaload, 1) := by decide +kernel
theorem dL_law_419 : decode cL_law 419 = .ok (.i2c, 1) := by decide +kernel
theorem dL_law_420 : decode cL_law 420 = .ok (.invokevirtual 57, 3) := by decide +kernel
theorem dL_law_423 : decode cL_law 423 = .ok (.if_icmp .eq 311, 3) := by decide +kernel
theorem dL_law_426 : decode cL_law 426 = .ok (.iconst 0, 1) := by decide +kernel
theorem dL_law_427 : decode cL_law 427 = .ok (.ireturn, 1) := by decide +kernel
theorem dL_law_428 : decode cL_law 428 = .ok (.aload_n 1, 1) := by decide +kernel
theorem dL_law_429 : decode cL_law 429 = .ok (.invokevirtual 58, 3) := by decide +kernel
theorem dL_law_432 : decode cL_law 432 = .ok (.aload_n 2, 1) := by decide +kernel
theorem dL_law_433 : decode cL_law 433 = .ok (.invokevirtual 61, 3) := by decide +kernel
theorem dL_law_436 : decode cL_law 436 = .ok (.if_icmp .eq 298, 3) := by decide +kernel
theorem dL_law_439 : decode cL_law 439 = .ok (.iconst 0, 1) := by decide +kernel
theorem dL_law_440 : decode cL_law 440 = .ok (.ireturn, 1) := by decide +kernel
theorem dL_law_441 : decode cL_law 441 = .ok (.aload_n 1, 1) := by decide +kernel
theorem dL_law_442 : decode cL_law 442 = .ok (.invokevirtual 62, 3) := by decide +kernel
theorem dL_law_445 : decode cL_law 445 = .ok (.aload_n 2, 1) := by decide +kernel
theorem dL_law_446 : decode cL_law 446 = .ok (.invokevirtual 65, 3) := by decide +kernel
theorem dL_law_449 : decode cL_law 449 = .ok (.if_icmp .eq 285, 3) := by decide +kernel
theorem dL_law_452 : decode cL_law 452 = .ok (.iconst 0, 1) := by decide +kernel
theorem dL_law_453 : decode cL_law 453 = .ok (.ireturn, 1) := by decide +kernel
theorem dL_law_454 : decode cL_law 454 = .ok (.aload_n 1, 1) := by decide +kernel
theorem dL_law_455 : decode cL_law 455 = .ok (.invokevirtual 66, 3) := by decide +kernel
theorem dL_law_458 : decode cL_law 458 = .ok (.aload_n 2, 1) := by decide +kernel
theorem dL_law_459 : decode cL_law 459 = .ok (.invokevirtual 69, 3) := by decide +kernel
theorem dL_law_462 : decode cL_law 462 = .ok (.if_icmp .eq 272, 3) := by decide +kernel
theorem dL_law_465 : decode cL_law 465 = .ok (.iconst 0, 1) := by decide +kernel
theorem dL_law_466 : decode cL_law 466 = .ok (.ireturn, 1) := by decide +kernel
theorem dL_law_467 : decode cL_law 467 = .ok (.aload_n 1, 1) := by decide +kernel
theorem dL_law_468 : decode cL_law 468 = .ok (.invokevirtual 70, 3) := by decide +kernel
theorem dL_law_471 : decode cL_law 471 = .ok (.aload_n 2, 1) := by decide +kernel
theorem dL_law_472 : decode cL_law 472 = .ok (.invokevirtual 73, 3) := by decide +kernel
theorem dL_law_475 : decode cL_law 475 = .ok (.if_icmp .eq 259, 3) := by decide +kernel
theorem dL_law_478 : decode cL_law 478 = .ok (.iconst 0, 1) := by decide +kernel
theorem dL_law_479 : decode cL_law 479 = .ok (.ireturn, 1) := by decide +kernel
theorem dL_law_480 : decode cL_law 480 = .ok (.aload_n 1, 1) := by decide +kernel
theorem dL_law_481 : decode cL_law 481 = .ok (.aload_n 0, 1) := by decide +kernel
theorem dL_law_482 : decode cL_law 482 = .ok (.iload_n 3, 1) := by decide +kernel
theorem dL_law_483 : decode cL_law 483 = .ok (.iconst 1, 1) := by decide +kernel
theorem dL_law_484 : decode cL_law 484 = .ok (.iadd, 1) := by decide +kernel
theorem dL_law_485 : decode cL_law 485 = .ok (.iaload, 1) := by decide +kernel
theorem dL_law_486 : decode cL_law 486 = .ok (.aload_n 0, 1) := by decide +kernel
theorem dL_law_487 : decode cL_law 487 = .ok (.iload_n 3, 1) := by decide +kernel
theorem dL_law_488 : decode cL_law 488 = .ok (.iconst 2, 1) := by decide +kernel
theorem dL_law_489 : decode cL_law 489 = .ok (.iadd, 1) := by decide +kernel
theorem dL_law_490 : decode cL_law 490 = .ok (.iaload, 1) := by decide +kernel
theorem dL_law_491 : decode cL_law 491 = .ok (.invokevirtual 74, 3) := by decide +kernel
theorem dL_law_494 : decode cL_law 494 = .ok (.aload_n 2, 1) := by decide +kernel
theorem dL_law_495 : decode cL_law 495 = .ok (.aload_n 0, 1) := by decide +kernel
theorem dL_law_496 : decode cL_law 496 = .ok (.iload_n 3, 1) := by decide +kernel
theorem dL_law_497 : decode cL_law 497 = .ok (.iconst 1, 1) := by decide +kernel
theorem dL_law_498 : decode cL_law 498 = .ok (.iadd, 1) := by decide +kernel
theorem dL_law_499 : decode cL_law 499 = .ok (.iaload, 1) := by decide +kernel
theorem dL_law_500 : decode cL_law 500 = .ok (.aload_n 0, 1) := by decide +kernel
theorem dL_law_501 : decode cL_law 501 = .ok (.iload_n 3, 1) := by decide +kernel
theorem dL_law_502 : decode cL_law 502 = .ok (.iconst 2, 1) := by decide +kernel
theorem dL_law_503 : decode cL_law 503 = .ok (.iadd, 1) := by decide +kernel
theorem dL_law_504 : decode cL_law 504 = .ok (.iaload, 1) := by decide +kernel
theorem dL_law_505 : decode cL_law 505 = .ok (.invokevirtual 77, 3) := by decide +kernel
theorem dL_law_508 : decode cL_law 508 = .ok (.if_icmp .eq 226, 3) := by decide +kernel
theorem dL_law_511 : decode cL_law 511 = .ok (.iconst 0, 1) := by decide +kernel
theorem dL_law_512 : decode cL_law 512 = .ok (.ireturn, 1) := by decide +kernel
theorem dL_law_513 : decode cL_law 513 = .ok (.aload_n 1, 1) := by decide +kernel
theorem dL_law_514 : decode cL_law 514 = .ok (.aload_n 0, 1) := by decide +kernel
theorem dL_law_515 : decode cL_law 515 = .ok (.iload_n 3, 1) := by decide +kernel
theorem dL_law_516 : decode cL_law 516 = .ok (.iconst 1, 1) := by decide +kernel
theorem dL_law_517 : decode cL_law 517 = .ok (.iadd, 1) := by decide +kernel
theorem dL_law_518 : decode cL_law 518 = .ok (.iaload, 1) := by decide +kernel
theorem dL_law_519 : decode cL_law 519 = .ok (.aload_n 0, 1) := by decide +kernel
theorem dL_law_520 : decode cL_law 520 = .ok (.iload_n 3, 1) := by decide +kernel
theorem dL_law_521 : decode cL_law 521 = .ok (.iconst 2, 1) := by decide +kernel
theorem dL_law_522 : decode cL_law 522 = .ok (.iadd, 1) := by decide +kernel
theorem dL_law_523 : decode cL_law 523 = .ok (.iaload, 1) := by decide +kernel
theorem dL_law_524 : decode cL_law 524 = .ok (.invokevirtual 78, 3) := by decide +kernel
theorem dL_law_527 : decode cL_law 527 = .ok (.aload_n 2, 1) := by decide +kernel
theorem dL_law_528 : decode cL_law 528 = .ok (.aload_n 0, 1) := by decide +kernel
theorem dL_law_529 : decode cL_law 529 = .ok (.iload_n 3, 1) := by decide +kernel
theorem dL_law_530 : decode cL_law 530 = .ok (.iconst 1, 1) := by decide +kernel
theorem dL_law_531 : decode cL_law 531 = .ok (.iadd, 1) := by decide +kernel
theorem dL_law_532 : decode cL_law 532 = .ok (.iaload, 1) := by decide +kernel
theorem dL_law_533 : decode cL_law 533 = .ok (.aload_n 0, 1) := by decide +kernel
theorem dL_law_534 : decode cL_law 534 = .ok (.iload_n 3, 1) := by decide +kernel
theorem dL_law_535 : decode cL_law 535 = .ok (.iconst 2, 1) := by decide +kernel
theorem dL_law_536 : decode cL_law 536 = .ok (.iadd, 1) := by decide +kernel
theorem dL_law_537 : decode cL_law 537 = .ok (.iaload, 1) := by decide +kernel
theorem dL_law_538 : decode cL_law 538 = .ok (.invokevirtual 81, 3) := by decide +kernel
theorem dL_law_541 : decode cL_law 541 = .ok (.if_icmp .eq 193, 3) := by decide +kernel
theorem dL_law_544 : decode cL_law 544 = .ok (.iconst 0, 1) := by decide +kernel
theorem dL_law_545 : decode cL_law 545 = .ok (.ireturn, 1) := by decide +kernel
theorem dL_law_546 : decode cL_law 546 = .ok (.aload_n 1, 1) := by decide +kernel
theorem dL_law_547 : decode cL_law 547 = .ok (.aload_n 0, 1) := by decide +kernel
theorem dL_law_548 : decode cL_law 548 = .ok (.iload_n 3, 1) := by decide +kernel
theorem dL_law_549 : decode cL_law 549 = .ok (.iconst 1, 1) := by decide +kernel
theorem dL_law_550 : decode cL_law 550 = .ok (.iadd, 1) := by decide +kernel
theorem dL_law_551 : decode cL_law 551 = .ok (.iaload, 1) := by decide +kernel
theorem dL_law_552 : decode cL_law 552 = .ok (.aload_n 0, 1) := by decide +kernel
theorem dL_law_553 : decode cL_law 553 = .ok (.iload_n 3, 1) := by decide +kernel
theorem dL_law_554 : decode cL_law 554 = .ok (.iconst 2, 1) := by decide +kernel
theorem dL_law_555 : decode cL_law 555 = .ok (.iadd, 1) := by decide +kernel
theorem dL_law_556 : decode cL_law 556 = .ok (.iaload, 1) := by decide +kernel
theorem dL_law_557 : decode cL_law 557 = .ok (.invokevirtual 82, 3) := by decide +kernel
theorem dL_law_560 : decode cL_law 560 = .ok (.aload_n 2, 1) := by decide +kernel
theorem dL_law_561 : decode cL_law 561 = .ok (.aload_n 0, 1) := by decide +kernel
theorem dL_law_562 : decode cL_law 562 = .ok (.iload_n 3, 1) := by decide +kernel
theorem dL_law_563 : decode cL_law 563 = .ok (.iconst 1, 1) := by decide +kernel
theorem dL_law_564 : decode cL_law 564 = .ok (.iadd, 1) := by decide +kernel
theorem dL_law_565 : decode cL_law 565 = .ok (.iaload, 1) := by decide +kernel
theorem dL_law_566 : decode cL_law 566 = .ok (.aload_n 0, 1) := by decide +kernel
theorem dL_law_567 : decode cL_law 567 = .ok (.iload_n 3, 1) := by decide +kernel
theorem dL_law_568 : decode cL_law 568 = .ok (.iconst 2, 1) := by decide +kernel
theorem dL_law_569 : decode cL_law 569 = .ok (.iadd, 1) := by decide +kernel
theorem dL_law_570 : decode cL_law 570 = .ok (.iaload, 1) := by decide +kernel
theorem dL_law_571 : decode cL_law 571 = .ok (.invokevirtual 85, 3) := by decide +kernel
theorem dL_law_574 : decode cL_law 574 = .ok (.if_icmp .eq 160, 3) := by decide +kernel
theorem dL_law_577 : decode cL_law 577 = .ok (.iconst 0, 1) := by decide +kernel
theorem dL_law_578 : decode cL_law 578 = .ok (.ireturn, 1) := by decide +kernel
theorem dL_law_579 : decode cL_law 579 = .ok (.aload_n 1, 1) := by decide +kernel
theorem dL_law_580 : decode cL_law 580 = .ok (.aload_n 0, 1) := by decide +kernel
theorem dL_law_581 : decode cL_law 581 = .ok (.iload_n 3, 1) := by decide +kernel
theorem dL_law_582 : decode cL_law 582 = .ok (.iconst 1, 1) := by decide +kernel
theorem dL_law_583 : decode cL_law 583 = .ok (.iadd, 1) := by decide +kernel
theorem dL_law_584 : decode cL_law 584 = .ok (.iaload, 1) := by decide +kernel
theorem dL_law_585 : decode cL_law 585 = .ok (.aload_n 0, 1) := by decide +kernel
theorem dL_law_586 : decode cL_law 586 = .ok (.iload_n 3, 1) := by decide +kernel
theorem dL_law_587 : decode cL_law 587 = .ok (.iconst 2, 1) := by decide +kernel
theorem dL_law_588 : decode cL_law 588 = .ok (.iadd, 1) := by decide +kernel
theorem dL_law_589 : decode cL_law 589 = .ok (.iaload, 1) := by decide +kernel
theorem dL_law_590 : decode cL_law 590 = .ok (.invokevirtual 86, 3) := by decide +kernel
theorem dL_law_593 : decode cL_law 593 = .ok (.aload_n 2, 1) := by decide +kernel
theorem dL_law_594 : decode cL_law 594 = .ok (.aload_n 0, 1) := by decide +kernel
theorem dL_law_595 : decode cL_law 595 = .ok (.iload_n 3, 1) := by decide +kernel
theorem dL_law_596 : decode cL_law 596 = .ok (.iconst 1, 1) := by decide +kernel
theorem dL_law_597 : decode cL_law 597 = .ok (.iadd, 1) := by decide +kernel
theorem dL_law_598 : decode cL_law 598 = .ok (.iaload, 1) := by decide +kernel
theorem dL_law_599 : decode cL_law 599 = .ok (.aload_n 0, 1) := by decide +kernel
theorem dL_law_600 : decode cL_law 600 = .ok (.iload_n 3, 1) := by decide +kernel
theorem dL_law_601 : decode cL_law 601 = .ok (.iconst 2, 1) := by decide +kernel
theorem dL_law_602 : decode cL_law 602 = .ok (.iadd, 1) := by decide +kernel
theorem dL_law_603 : decode cL_law 603 = .ok (.iaload, 1) := by decide +kernel
theorem dL_law_604 : decode cL_law 604 = .ok (.invokevirtual 89, 3) := by decide +kernel
theorem dL_law_607 : decode cL_law 607 = .ok (.if_icmp .eq 127, 3) := by decide +kernel
theorem dL_law_610 : decode cL_law 610 = .ok (.iconst 0, 1) := by decide +kernel
theorem dL_law_611 : decode cL_law 611 = .ok (.ireturn, 1) := by decide +kernel
theorem dL_law_612 : decode cL_law 612 = .ok (.aload_n 1, 1) := by decide +kernel
theorem dL_law_613 : decode cL_law 613 = .ok (.aload_n 0, 1) := by decide +kernel
theorem dL_law_614 : decode cL_law 614 = .ok (.iload_n 3, 1) := by decide +kernel
theorem dL_law_615 : decode cL_law 615 = .ok (.iconst 1, 1) := by decide +kernel
theorem dL_law_616 : decode cL_law 616 = .ok (.iadd, 1) := by decide +kernel
theorem dL_law_617 : decode cL_law 617 = .ok (.iaload, 1) := by decide +kernel
theorem dL_law_618 : decode cL_law 618 = .ok (.aload_n 0, 1) := by decide +kernel
theorem dL_law_619 : decode cL_law 619 = .ok (.iload_n 3, 1) := by decide +kernel
theorem dL_law_620 : decode cL_law 620 = .ok (.iconst 2, 1) := by decide +kernel
theorem dL_law_621 : decode cL_law 621 = .ok (.iadd, 1) := by decide +kernel
theorem dL_law_622 : decode cL_law 622 = .ok (.iaload, 1) := by decide +kernel
theorem dL_law_623 : decode cL_law 623 = .ok (.invokevirtual 90, 3) := by decide +kernel
theorem dL_law_626 : decode cL_law 626 = .ok (.aload_n 2, 1) := by decide +kernel
theorem dL_law_627 : decode cL_law 627 = .ok (.aload_n 0, 1) := by decide +kernel
theorem dL_law_628 : decode cL_law 628 = .ok (.iload_n 3, 1) := by decide +kernel
theorem dL_law_629 : decode cL_law 629 = .ok (.iconst 1, 1) := by decide +kernel
theorem dL_law_630 : decode cL_law 630 = .ok (.iadd, 1) := by decide +kernel
theorem dL_law_631 : decode cL_law 631 = .ok (.iaload, 1) := by decide +kernel
theorem dL_law_632 : decode cL_law 632 = .ok (.aload_n 0, 1) := by decide +kernel
theorem dL_law_633 : decode cL_law 633 = .ok (.iload_n 3, 1) := by decide +kernel
theorem dL_law_634 : decode cL_law 634 = .ok (.iconst 2, 1) := by decide +kernel
theorem dL_law_635 : decode cL_law 635 = .ok (.iadd, 1) := by decide +kernel
theorem dL_law_636 : decode cL_law 636 = .ok (.iaload, 1) := by decide +kernel
theorem dL_law_637 : decode cL_law 637 = .ok (.invokevirtual 93, 3) := by decide +kernel
theorem dL_law_640 : decode cL_law 640 = .ok (.if_icmp .eq 94, 3) := by decide +kernel
theorem dL_law_643 : decode cL_law 643 = .ok (.iconst 0, 1) := by decide +kernel
theorem dL_law_644 : decode cL_law 644 = .ok (.ireturn, 1) := by decide +kernel
theorem dL_law_645 : decode cL_law 645 = .ok (.aload_n 1, 1) := by decide +kernel
theorem dL_law_646 : decode cL_law 646 = .ok (.aload_n 0, 1) := by decide +kernel
theorem dL_law_647 : decode cL_law 647 = .ok (.iload_n 3, 1) := by decide +kernel
theorem dL_law_648 : decode cL_law 648 = .ok (.iconst 1, 1) := by decide +kernel
theorem dL_law_649 : decode cL_law 649 = .ok (.iadd, 1) := by decide +kernel
theorem dL_law_650 : decode cL_law 650 = .ok (.iaload, 1) := by decide +kernel
theorem dL_law_651 : decode cL_law 651 = .ok (.aload_n 0, 1) := by decide +kernel
theorem dL_law_652 : decode cL_law 652 = .ok (.iload_n 3, 1) := by decide +kernel
theorem dL_law_653 : decode cL_law 653 = .ok (.iconst 2, 1) := by decide +kernel
theorem dL_law_654 : decode cL_law 654 = .ok (.iadd, 1) := by decide +kernel
theorem dL_law_655 : decode cL_law 655 = .ok (.iaload, 1) := by decide +kernel
theorem dL_law_656 : decode cL_law 656 = .ok (.aload_n 0, 1) := by decide +kernel
theorem dL_law_657 : decode cL_law 657 = .ok (.iload_n 3, 1) := by decide +kernel
theorem dL_law_658 : decode cL_law 658 = .ok (.iconst 3, 1) := by decide +kernel
theorem dL_law_659 : decode cL_law 659 = .ok (.iadd, 1) := by decide +kernel
theorem dL_law_660 : decode cL_law 660 = .ok (.iaload, 1) := by decide +kernel
theorem dL_law_661 : decode cL_law 661 = .ok (.invokevirtual 94, 3) := by decide +kernel
theorem dL_law_664 : decode cL_law 664 = .ok (.aload_n 2, 1) := by decide +kernel
theorem dL_law_665 : decode cL_law 665 = .ok (.aload_n 0, 1) := by decide +kernel
theorem dL_law_666 : decode cL_law 666 = .ok (.iload_n 3, 1) := by decide +kernel
theorem dL_law_667 : decode cL_law 667 = .ok (.iconst 1, 1) := by decide +kernel
theorem dL_law_668 : decode cL_law 668 = .ok (.iadd, 1) := by decide +kernel
theorem dL_law_669 : decode cL_law 669 = .ok (.iaload, 1) := by decide +kernel
theorem dL_law_670 : decode cL_law 670 = .ok (.aload_n 0, 1) := by decide +kernel
theorem dL_law_671 : decode cL_law 671 = .ok (.iload_n 3, 1) := by decide +kernel
theorem dL_law_672 : decode cL_law 672 = .ok (.iconst 2, 1) := by decide +kernel
theorem dL_law_673 : decode cL_law 673 = .ok (.iadd, 1) := by decide +kernel
theorem dL_law_674 : decode cL_law 674 = .ok (.iaload, 1) := by decide +kernel
theorem dL_law_675 : decode cL_law 675 = .ok (.aload_n 0, 1) := by decide +kernel
theorem dL_law_676 : decode cL_law 676 = .ok (.iload_n 3, 1) := by decide +kernel
theorem dL_law_677 : decode cL_law 677 = .ok (.iconst 3, 1) := by decide +kernel
theorem dL_law_678 : decode cL_law 678 = .ok (.iadd, 1) := by decide +kernel
theorem dL_law_679 : decode cL_law 679 = .ok (.iaload, 1) := by decide +kernel
theorem dL_law_680 : decode cL_law 680 = .ok (.invokevirtual 97, 3) := by decide +kernel
theorem dL_law_683 : decode cL_law 683 = .ok (.if_icmp .eq 51, 3) := by decide +kernel
theorem dL_law_686 : decode cL_law 686 = .ok (.iconst 0, 1) := by decide +kernel
theorem dL_law_687 : decode cL_law 687 = .ok (.ireturn, 1) := by decide +kernel
theorem dL_law_688 : decode cL_law 688 = .ok (.aload_n 1, 1) := by decide +kernel
theorem dL_law_689 : decode cL_law 689 = .ok (.aload_n 0, 1) := by decide +kernel
theorem dL_law_690 : decode cL_law 690 = .ok (.iload_n 3, 1) := by decide +kernel
theorem dL_law_691 : decode cL_law 691 = .ok (.iconst 1, 1) := by decide +kernel
theorem dL_law_692 : decode cL_law 692 = .ok (.iadd, 1) := by decide +kernel
theorem dL_law_693 : decode cL_law 693 = .ok (.iaload, 1) := by decide +kernel
theorem dL_law_694 : decode cL_law 694 = .ok (.invokevirtual 98, 3) := by decide +kernel
theorem dL_law_697 : decode cL_law 697 = .ok (.aload_n 2, 1) := by decide +kernel
theorem dL_law_698 : decode cL_law 698 = .ok (.aload_n 0, 1) := by decide +kernel
theorem dL_law_699 : decode cL_law 699 = .ok (.iload_n 3, 1) := by decide +kernel
theorem dL_law_700 : decode cL_law 700 = .ok (.iconst 1, 1) := by decide +kernel
theorem dL_law_701 : decode cL_law 701 = .ok (.iadd, 1) := by decide +kernel
theorem dL_law_702 : decode cL_law 702 = .ok (.iaload, 1) := by decide +kernel
theorem dL_law_703 : decode cL_law 703 = .ok (.invokevirtual 101, 3) := by decide +kernel
theorem dL_law_706 : decode cL_law 706 = .ok (.if_icmp .eq 28, 3) := by decide +kernel
theorem dL_law_709 : decode cL_law 709 = .ok (.iconst 0, 1) := by decide +kernel
theorem dL_law_710 : decode cL_law 710 = .ok (.ireturn, 1) := by decide +kernel
theorem dL_law_711 : decode cL_law 711 = .ok (.aload_n 1, 1) := by decide +kernel
theorem dL_law_712 : decode cL_law 712 = .ok (.aload_n 0, 1) := by decide +kernel
theorem dL_law_713 : decode cL_law 713 = .ok (.iload_n 3, 1) := by decide +kernel
theorem dL_law_714 : decode cL_law 714 = .ok (.iconst 1, 1) := by decide +kernel
theorem dL_law_715 : decode cL_law 715 = .ok (.iadd, 1) := by decide +kernel
theorem dL_law_716 : decode cL_law 716 = .ok (.iaload, 1) := by decide +kernel
theorem dL_law_717 : decode cL_law 717 = .ok (.invokevirtual 102, 3) := by decide +kernel
theorem dL_law_720 : decode cL_law 720 = .ok (.aload_n 2, 1) := by decide +kernel
theorem dL_law_721 : decode cL_law 721 = .ok (.aload_n 0, 1) := by decide +kernel
theorem dL_law_722 : decode cL_law 722 = .ok (.iload_n 3, 1) := by decide +kernel
theorem dL_law_723 : decode cL_law 723 = .ok (.iconst 1, 1) := by decide +kernel
theorem dL_law_724 : decode cL_law 724 = .ok (.iadd, 1) := by decide +kernel
theorem dL_law_725 : decode cL_law 725 = .ok (.iaload, 1) := by decide +kernel
theorem dL_law_726 : decode cL_law 726 = .ok (.invokevirtual 105, 3) := by decide +kernel
theorem dL_law_729 : decode cL_law 729 = .ok (.if_icmp .eq 5, 3) := by decide +kernel
theorem dL_law_732 : decode cL_law 732 = .ok (.iconst 0, 1) := by decide +kernel
theorem dL_law_733 : decode cL_law 733 = .ok (.ireturn, 1) := by decide +kernel
theorem dL_law_734 : decode cL_law 734 = .ok (.iinc 3 4, 3) := by decide +kernel
theorem dL_law_737 : decode cL_law 737 = .ok (.goto (-719), 3) := by decide +kernel
theorem dL_law_740 : decode cL_law 740 = .ok (.iconst 1, 1) := by decide +kernel
theorem dL_law_741 : decode cL_law 741 = .ok (.ireturn, 1) := by decide +kernel
end
section
/-! the state of both systems: ints by region and place, longs by row and place; the world is one list of 61 cells -/
abbrev CF : Type := Nat → Nat → Int32
abbrev GF : Type := Nat → Nat → Int64
abbrev SS : Type := CF × GF
abbrev EV : Type := va_G × (Nat → ClassId) × (Nat → Nat) × (Nat → Prop) × (Nat → Nat)
def eD (E : EV) : va_G := E.1
def eT (E : EV) : Nat → ClassId := E.2.1
def eA (E : EV) : Nat → Nat := E.2.2.1
def eR (E : EV) : Nat → Prop := E.2.2.2.1
def eS (E : EV) : Nat → Nat := E.2.2.2.2
def up (c : CF) (r i : Nat) (v : Int32) : CF := fun q => if q = r then upd (c r) i v else c q
def upG (g : GF) (r i : Nat) (v : Int64) : GF := fun q => if q = r then vp_updL (g r) i v else g q
theorem up_s (c : CF) (r i : Nat) (v : Int32) : up c r i v r i = v := by simp [up, upd]
theorem up_i (c : CF) {r i j : Nat} (v : Int32) (h : j ≠ i) : up c r i v r j = c r j := by simp [up, upd, h]
theorem up_r (c : CF) {r i q : Nat} (v : Int32) (h : q ≠ r) : up c r i v q = c q := by simp [up, h]
theorem up_at (c : CF) (r i : Nat) (v : Int32) (q j : Nat) : up c r i v q j = if q = r ∧ j = i then v else c q j := by
  by_cases h : q = r
  · subst h
    by_cases h2 : j = i
    · subst h2; simp [up, upd]
    · simp [up, upd, h2]
  · simp [up, h]
theorem upG_at (c : GF) (r i : Nat) (v : Int64) (q j : Nat) : upG c r i v q j = if q = r ∧ j = i then v else c q j := by
  by_cases h : q = r
  · subst h
    by_cases h2 : j = i
    · subst h2; simp [upG, vp_updL]
    · simp [upG, vp_updL, h2]
  · simp [upG, h]
/-- the model's seven words -/
def wordsF : Nat → Int64 := fun j => ([0x736f75726365, 0x616e64, 0x6f72, 0x786f72, 0x6d7578, 0x6e6f74, 0x64656c6179] : List Int64).getD j 0
/-- the world -/
def wl (E : EV) (u : SS) : va_W := [(eA E 0, .inr (5, [.ref (eA E 10), .ref (eA E 13), .int (u.1 0 0), .ref (eA E 16), .ref (eA E 1), .ref (eA E 3), .ref (eA E 5), .ref (eA E 9)])), (eA E 1, .inr (3, [.ref (eA E 2), .int (u.1 0 1), .int (u.1 0 2)])), (eA E 2, .inl (eT E 3, 4, .inr (.inr (.inr (.inr (fun i => some (eA E (19 + 3 * i)))))))), (eA E 3, .inr (1, [.ref (eA E 4), .int (u.1 0 3), .int (u.1 0 4)])), (eA E 4, .inl (eT E 1, 80, .inl (u.1 6))), (eA E 5, .inr (2, [.ref (eA E 6), .ref (eA E 7), .ref (eA E 8)])), (eA E 6, .inl (eT E 0, 16, .inl (u.1 3))), (eA E 7, .inl (eT E 0, 16, .inl (u.1 4))), (eA E 8, .inl (eT E 0, 16, .inl (u.1 5))), (eA E 9, .inr (4, [.ref (eA E 31)])), (eA E 10, .inr (0, [.int (u.1 1 0), .int (u.1 2 0), .ref (eA E 11), .ref (eA E 12)])), (eA E 11, .inl (eT E 0, 16, .inl (u.1 20))), (eA E 12, .inl (eT E 0, 48, .inl (u.1 30))), (eA E 13, .inr (0, [.int (u.1 1 1), .int (u.1 2 1), .ref (eA E 14), .ref (eA E 15)])), (eA E 14, .inl (eT E 0, 16, .inl (u.1 21))), (eA E 15, .inl (eT E 0, 48, .inl (u.1 31))), (eA E 16, .inr (0, [.int (u.1 1 2), .int (u.1 2 2), .ref (eA E 17), .ref (eA E 18)])), (eA E 17, .inl (eT E 0, 16, .inl (u.1 22))), (eA E 18, .inl (eT E 0, 48, .inl (u.1 32))), (eA E 19, .inr (0, [.int (u.1 1 3), .int (u.1 2 3), .ref (eA E 20), .ref (eA E 21)])), (eA E 20, .inl (eT E 0, 16, .inl (u.1 23))), (eA E 21, .inl (eT E 0, 48, .inl (u.1 33))), (eA E 22, .inr (0, [.int (u.1 1 4), .int (u.1 2 4), .ref (eA E 23), .ref (eA E 24)])), (eA E 23, .inl (eT E 0, 16, .inl (u.1 24))), (eA E 24, .inl (eT E 0, 48, .inl (u.1 34))), (eA E 25, .inr (0, [.int (u.1 1 5), .int (u.1 2 5), .ref (eA E 26), .ref (eA E 27)])), (eA E 26, .inl (eT E 0, 16, .inl (u.1 25))), (eA E 27, .inl (eT E 0, 48, .inl (u.1 35))), (eA E 28, .inr (0, [.int (u.1 1 6), .int (u.1 2 6), .ref (eA E 29), .ref (eA E 30)])), (eA E 29, .inl (eT E 0, 16, .inl (u.1 26))), (eA E 30, .inl (eT E 0, 48, .inl (u.1 36))), (eA E 31, .inl (eT E 4, 16, .inr (.inr (.inr (.inr (fun i => some (eA E (32 + i)))))))), (eA E 32, .inl (eT E 2, 16, .inr (.inl (u.2 0)))), (eA E 33, .inl (eT E 2, 16, .inr (.inl (u.2 1)))), (eA E 34, .inl (eT E 2, 16, .inr (.inl (u.2 2)))), (eA E 35, .inl (eT E 2, 16, .inr (.inl (u.2 3)))), (eA E 36, .inl (eT E 2, 16, .inr (.inl (u.2 4)))), (eA E 37, .inl (eT E 2, 16, .inr (.inl (u.2 5)))), (eA E 38, .inl (eT E 2, 16, .inr (.inl (u.2 6)))), (eA E 39, .inl (eT E 2, 16, .inr (.inl (u.2 7)))), (eA E 40, .inl (eT E 2, 16, .inr (.inl (u.2 8)))), (eA E 41, .inl (eT E 2, 16, .inr (.inl (u.2 9)))), (eA E 42, .inl (eT E 2, 16, .inr (.inl (u.2 10)))), (eA E 43, .inl (eT E 2, 16, .inr (.inl (u.2 11)))), (eA E 44, .inl (eT E 2, 16, .inr (.inl (u.2 12)))), (eA E 45, .inl (eT E 2, 16, .inr (.inl (u.2 13)))), (eA E 46, .inl (eT E 2, 16, .inr (.inl (u.2 14)))), (eA E 47, .inl (eT E 2, 16, .inr (.inl (u.2 15)))), (eA E 48, .inr (6, [.ref (eA E 49), .ref (eA E 50), .ref (eA E 51), .int (u.1 40 0), .ref (eA E 52), .int (u.1 40 1), .ref (eA E 53), .ref (eA E 54), .ref (eA E 55), .ref (eA E 56), .ref (eA E 57), .int (u.1 40 2), .int (u.1 40 3), .ref (eA E 58), .int (u.1 40 4), .int (u.1 40 5), .ref (eA E 59), .ref (eA E 60)])), (eA E 49, .inl (eT E 0, 66, .inl (u.1 41))), (eA E 50, .inl (eT E 0, 66, .inl (u.1 42))), (eA E 51, .inl (eT E 0, 264, .inl (u.1 43))), (eA E 52, .inl (eT E 0, 66, .inl (u.1 44))), (eA E 53, .inl (eT E 2, 7, .inr (.inl wordsF))), (eA E 54, .inl (eT E 0, 16000, .inl (u.1 45))), (eA E 55, .inl (eT E 0, 16, .inl (u.1 46))), (eA E 56, .inl (eT E 0, 16, .inl (u.1 47))), (eA E 57, .inl (eT E 0, 80, .inl (u.1 48))), (eA E 58, .inl (eT E 0, 80, .inl (u.1 49))), (eA E 59, .inl (eT E 0, 16, .inl (u.1 50))), (eA E 60, .inl (eT E 0, 16, .inl (u.1 51)))]
/-- the nest mates' links -/
def nestL : List Cond := [.methodLinkNest "ShareStreams" 9 ⟨"ShareStreams$Bench", "<init>", "()V"⟩ "ShareStreams", .fieldLinkNest "ShareStreams" 97 "ShareStreams$Bench" "length" "I" "ShareStreams", .fieldLinkNest "ShareStreams$Figures" 21 "ShareStreams$Bench" "size" "I" "ShareStreams", .fieldLinkNest "ShareStreams$CircuitText" 22 "ShareStreams$Bench" "size" "I" "ShareStreams", .fieldLinkNest "ShareStreams" 90 "ShareStreams$Bench" "size" "I" "ShareStreams", .methodLinkNest "ShareStreams" 28 ⟨"ShareStreams$History", "<init>", "()V"⟩ "ShareStreams", .methodLinkNest "ShareStreams$History" 24 ⟨"ShareStreams$Bench", "<init>", "()V"⟩ "ShareStreams", .fieldLinkNest "ShareStreams" 118 "ShareStreams$History" "size" "I" "ShareStreams", .methodLinkNest "ShareStreams" 35 ⟨"ShareStreams$CircuitText", "<init>", "()V"⟩ "ShareStreams", .fieldLinkNest "ShareStreams" 113 "ShareStreams$CircuitText" "size" "I" "ShareStreams", .methodLinkNest "ShareStreams" 42 ⟨"ShareStreams$Figures", "<init>", "()V"⟩ "ShareStreams", .methodLinkNest "ShareStreams" 49 ⟨"ShareStreams$Streams", "<init>", "()V"⟩ "ShareStreams", .methodLinkNest "ShareStreams" 82 ⟨"ShareStreams$History", "push", "(LShareStreams$Bench;)V"⟩ "ShareStreams", .methodLinkNest "ShareStreams$History" 29 ⟨"ShareStreams$Bench", "copyFrom", "(LShareStreams$Bench;)V"⟩ "ShareStreams", .methodLinkNest "ShareStreams$Bench" 25 ⟨"ShareStreams", "elementAt", "([II)I"⟩ "ShareStreams", .methodLinkNest "ShareStreams$Bench" 29 ⟨"ShareStreams", "setElement", "([III)V"⟩ "ShareStreams", .methodLinkNest "ShareStreams" 190 ⟨"ShareStreams$Bench", "add", "(IIII)V"⟩ "ShareStreams", .methodLinkNest "ShareStreams" 63 ⟨"ShareStreams$Bench", "has", "(I)Z"⟩ "ShareStreams", .methodLinkNest "ShareStreams" 72 ⟨"ShareStreams$Bench", "kindOf", "(I)I"⟩ "ShareStreams", .methodLinkNest "ShareStreams" 77 ⟨"ShareStreams$Bench", "numberOf", "(II)I"⟩ "ShareStreams", .methodLinkNest "ShareStreams" 86 ⟨"ShareStreams$Bench", "setSource", "(III)V"⟩ "ShareStreams", .methodLinkNest "ShareStreams" 94 ⟨"ShareStreams$Bench", "dropLast", "()V"⟩ "ShareStreams", .methodLinkNest "ShareStreams" 100 ⟨"ShareStreams$CircuitText", "readInto", "(LShareStreams$Bench;)I"⟩ "ShareStreams", .methodLinkNest "ShareStreams$CircuitText" 45 ⟨"ShareStreams$Bench", "add", "(IIII)V"⟩ "ShareStreams", .methodLinkNest "ShareStreams$CircuitText" 49 ⟨"ShareStreams", "numbersOfKind", "(I)I"⟩ "ShareStreams", .methodLinkNest "ShareStreams$CircuitText" 94 ⟨"ShareStreams", "linesOfKind", "(I)I"⟩ "ShareStreams", .methodLinkNest "ShareStreams$CircuitText" 63 ⟨"ShareStreams$Bench", "setNumber", "(III)V"⟩ "ShareStreams", .methodLinkNest "ShareStreams" 110 ⟨"ShareStreams$Bench", "addAll", "(LShareStreams$Bench;)V"⟩ "ShareStreams", .methodLinkNest "ShareStreams" 114 ⟨"ShareStreams$CircuitText", "append", "(C)V"⟩ "ShareStreams", .methodLinkNest "ShareStreams" 119 ⟨"ShareStreams$History", "popInto", "(LShareStreams$Bench;)V"⟩ "ShareStreams", .methodLinkNest "ShareStreams" 122 ⟨"ShareStreams$Bench", "copyFrom", "(LShareStreams$Bench;)V"⟩ "ShareStreams", .methodLinkNest "ShareStreams" 149 ⟨"ShareStreams$Streams", "fill", "(LShareStreams$Bench;II)V"⟩ "ShareStreams", .methodLinkNest "ShareStreams$Streams" 20 ⟨"ShareStreams$Bench", "kindOf", "(I)I"⟩ "ShareStreams", .methodLinkNest "ShareStreams$Streams" 26 ⟨"ShareStreams$Bench", "numberOf", "(II)I"⟩ "ShareStreams", .methodLinkNest "ShareStreams" 165 ⟨"ShareStreams$Streams", "onesIn", "(II)I"⟩ "ShareStreams", .methodLinkNest "ShareStreams" 134 ⟨"ShareStreams$Figures", "workOut", "(LShareStreams$Bench;)V"⟩ "ShareStreams", .methodLinkNest "ShareStreams$Figures" 60 ⟨"ShareStreams$Bench", "numberOf", "(II)I"⟩ "ShareStreams", .methodLinkNest "ShareStreams$Figures" 41 ⟨"ShareStreams", "elementAt", "([II)I"⟩ "ShareStreams", .methodLinkNest "ShareStreams$Figures" 66 ⟨"ShareStreams$Bench", "kindOf", "(I)I"⟩ "ShareStreams", .methodLinkNest "ShareStreams$Figures" 31 ⟨"ShareStreams", "setElement", "([III)V"⟩ "ShareStreams", .methodLinkNest "ShareStreams$Figures" 80 ⟨"ShareStreams", "linesOfKind", "(I)I"⟩ "ShareStreams", .methodLinkNest "ShareStreams" 137 ⟨"ShareStreams$Figures", "exactShareOf", "(I)I"⟩ "ShareStreams", .methodLinkNest "ShareStreams" 143 ⟨"ShareStreams$Figures", "depthOf", "(I)I"⟩ "ShareStreams", .methodLinkNest "ShareStreams" 146 ⟨"ShareStreams$Figures", "sourcesOf", "(I)I"⟩ "ShareStreams", .methodLinkNest "ShareStreams" 153 ⟨"ShareStreams$Streams", "bitAt", "(II)I"⟩ "ShareStreams", .methodLinkNest "ShareStreams" 161 ⟨"ShareStreams$Streams", "onesInBoth", "(III)I"⟩ "ShareStreams", .methodLinkNest "ShareStreams" 203 ⟨"ShareStreams$Streams", "refill", "(LShareStreams$Bench;III)V"⟩ "ShareStreams", .methodLinkNest "ShareStreams" 177 ⟨"ShareStreams$Bench", "sources", "()I"⟩ "ShareStreams", .methodLinkNest "ShareStreams" 187 ⟨"ShareStreams$Figures", "greatestDepth", "(I)I"⟩ "ShareStreams"]
def nestW : Cond → Bool
  | .methodLinkNest _ _ _ _ => true
  | .fieldLinkNest _ _ _ _ _ _ => true
  | _ => false
theorem nestL_nest : ∀ w ∈ nestL, nestW w = true := List.all_eq_true.mp (by decide +kernel)
theorem nestL_in : ∀ w ∈ nestL, w ∈ lw_tbl := by decide +kernel
theorem nest_warm {w : Cond} (h : nestW w = true) {s U : State} (hW : s.WarmedH U.vm) (hZ : va_Nw w s) : va_Nw w U := by
  cases w <;> first | (exact va_Nw.warmM hW hZ) | (exact va_Nw.warmF hW hZ) | (cases h)
theorem nest_same {w : Cond} (h : nestW w = true) {u U : State} (hv : u.vm = U.vm) (hZ : va_Nw w u) : va_Nw w U := by
  cases w <;> first | (exact va_Nw.same rfl hv hZ) | (cases h)
theorem nest_use {w : Cond} (h : nestW w = true) {A : Array Value} {U : State} (hZ : va_Nw w U) : w.before A U = true := by
  cases w <;> first | (exact va_Nw.use rfl hZ) | (cases h)
theorem nest_of {w : Cond} (h : nestW w = true) {A : Array Value} {U : State} (hZ : w.before A U = true) : va_Nw w U := by
  cases w <;> first | (exact va_Nw.of rfl hZ) | (cases h)
theorem gW_in {y : MethodName} {cc : ByteArray} {k : Nat} {ret : Option FieldType} (h : Cond.code y cc k ret ∈ gW) : GoodIn gW (Cond.code y cc k ret :: gW) := fun w hw => (List.mem_cons.mp hw).elim (fun e => by rw [e]; exact ⟨h, good_of_word (gW_good _ h)⟩) (fun hw => ⟨hw, good_of_word (gW_good _ hw)⟩)
/-- the two tables -/
def tblF (q : Nat) : Nat → Int32 := fun j => if q = 0 then (([2, 2, 2, 2, 3, 1, 2] : List Int32).getD j 0) else (([0, 2, 2, 2, 3, 1, 1] : List Int32).getD j 0)
def lenW : List Nat := [6, 3, 2, 3, 3, 3, 5]
def bytW : List (List Int32) := [[115, 111, 117, 114, 99, 101], [97, 110, 100], [111, 114], [120, 111, 114], [109, 117, 120], [110, 111, 116], [100, 101, 108, 97, 121]]
def txW : Nat → String := fun i => (["source", "and", "or", "xor", "mux", "not", "delay"] : List String).getD i ""
def tysL (E : EV) : List (ClassId × FieldType) := [(eT E 0, .int), (eT E 1, .char), (eT E 2, .long), (eT E 3, .object "ShareStreams$Bench"), (eT E 4, .array .long)]
/-- what a start gives beside the world, and no call changes -/
def KK (E : EV) (U : State) : Prop :=
  va_K (eD E) vwCl (tysL E) U ∧ (∀ w ∈ nestL, va_Nw w U) ∧
  (va_Z "ShareStreams" "NUMBERS_OF_KIND" "[I" (.ref (eS E 0)) (eR E) U U.heap ∧ va_T .int (eS E 0) 7 (fun j => .int (tblF 0 j)) (eR E) U U.heap) ∧
  (va_Z "ShareStreams" "LINES_OF_KIND" "[I" (.ref (eS E 1)) (eR E) U U.heap ∧ va_T .int (eS E 1) 7 (fun j => .int (tblF 1 j)) (eR E) U U.heap) ∧
  va_Z "java/lang/String" "COMPACT_STRINGS" "Z" (.int 1) (eR E) U U.heap ∧
  vk_S 7 lenW bytW (fun i => eS E (10 + i)) (fun i => eS E (20 + i)) (eR E) U U.heap ∧
  (∀ i, i < 7 → vk_R RX1 (80 + 2 * i) (txW i) (eS E (10 + i)) U) ∧
  va_Zq "jdk/internal/util/Preconditions" "SIOOBE_FORMATTER" "Ljava/util/function/BiFunction;" (eR E) U U.heap
theorem KK.step {E : EV} {s U : State} {H : Heap} {locs : List Loc} (h : KK E s) (hS : va_S (eR E) s.heap H locs) (hU : U.heap = H) (hW : s.WarmedH U.vm) : KK E U := by
  obtain ⟨h1, h2, ⟨h3, h4⟩, ⟨h5, h6⟩, h7, h8, h9, h10⟩ := h
  have hk := hS.2.1
  have ha := hW.alike
  unfold KK
  rw [hU]
  exact ⟨h1.moved ha, fun w hw => nest_warm (nestL_nest w hw) hW (h2 w hw), ⟨(h3.kept hk).moved ha, (h4.kept hk).moved ha⟩, ⟨(h5.kept hk).moved ha, (h6.kept hk).moved ha⟩, (h7.kept hk).moved ha, (h8.kept hk).moved ha, fun i hi => (h9 i hi).warm hW, (h10.kept hk).moved ha⟩
theorem KK.calling {E : EV} {a : Array Value} {U : State} {g : JFrame} {mk : MethodId} (h : KK E U) : KK E (U.calling g mk a) := by
  obtain ⟨h1, h2, ⟨h3, h4⟩, ⟨h5, h6⟩, h7, h8, h9, h10⟩ := h
  have ha : U.vm.Alike (U.calling g mk a).vm := Vm.Alike.refl U.vm
  exact ⟨h1.moved ha, fun w hw => nest_same (u := U) (U := U.calling g mk a) (nestL_nest w hw) rfl (h2 w hw), ⟨h3.moved ha, h4.moved ha⟩, ⟨h5.moved ha, h6.moved ha⟩, h7.moved ha, h8.moved ha, fun i hi => vk_R.same rfl (h9 i hi), h10.moved ha⟩
def Sw (E : EV) (u : SS) (H : Heap) : Prop := va_P (eD E) vwCl (wl E u) H ∧ va_D (eR E) (wl E u)
def Pre (E : EV) (u : SS) : State → Prop := fun U => Sw E u U.heap ∧ KK E U
def Iv (E : EV) (s : State) (H : Heap) (locs : List Loc) (u : SS) : Prop := Sw E u H ∧ va_S (eR E) s.heap H locs
/-- what a body leans on -/
def Fx (E : EV) (p : Program) (s : State) (m : MethodId) (args : Array Value) (meth : Method) (co : Code) (cc : ByteArray) (nL : Nat) (own : String) (ret : Option FieldType) : Prop :=
  p.tables.exec = Jvm.exec ∧ co.code = cc ∧ co.maxLocals = nL ∧ s.vm.findClass own = some m.cls ∧ (∀ w ∈ gW, w.before args s = true) ∧ KK E s ∧ meth.sig.returnType = ret ∧ meth.locks = false
theorem Pre.blind {E : EV} {u : SS} {av : List Value} : FrameBlind (va_Pc av (Pre E u)) := fun a U g mk q => ⟨q.1, q.2.1, q.2.2.calling⟩
abbrev Q_i {S : Type} (E : EV) (post : Int32 → S → Prop) (emb : S → SS) : Array Value → State → Outcome → State → Prop := va_Qi post (fun v t => Sw E (emb v) t.heap) (eR E)
abbrev Q_l {S : Type} (E : EV) (post : Int64 → S → Prop) (emb : S → SS) : Array Value → State → Outcome → State → Prop := va_Ql post (fun v t => Sw E (emb v) t.heap) (eR E)
abbrev Q_v {S : Type} (E : EV) (post : S → Prop) (emb : S → SS) : Array Value → State → Outcome → State → Prop := va_Qv post (fun v t => Sw E (emb v) t.heap) (eR E)
abbrev Q_q {S : Type} (E : EV) (post : Option Nat → S → Prop) (emb : S → SS) : Array Value → State → Outcome → State → Prop := va_Qq post (fun v t => Sw E (emb v) t.heap) (eR E)
/-- a contract: from the world u, with a method's end Qc, making nothing -/
abbrev CT (l : Launch) (y : MethodName) (cc : ByteArray) (maxL : Nat) (ret : Option FieldType) (rm : Room) (av : List Value) (E : EV) (u : SS) (Qc : Array Value → State → Outcome → State → Prop) : Prop :=
  Met l y (Cond.code y cc maxL ret :: gW) rm (va_Pc av (Pre E u)) Qc 0 0 (eR E)
abbrev Rm (f k : Nat) : Room := { frames := f, cells := 0, slots := 0, locals := k }
theorem mstart {l : Launch} {y : MethodName} {cc : ByteArray} {maxL : Nat} {ret : Option FieldType} {f k : Nat} {E : EV} {u : SS} {av : List Value} {Qc : Array Value → State → Outcome → State → Prop} (own : String) (hy : plainName y.cls = true) (ho : y.cls = own) (hn : (lg_sl av).length ≤ maxL)
    (body : ∀ (p : Program) (e : Env) (s : State) (m : MethodId) (args : Array Value) (below : List Frame) (meth : Method) (co : Code) (ls : Array Slot) (Q : State → Prop), MQ below Qc args s 0 0 (eR E) = Q → Fx E p s m args meth co cc maxL own ret → Iv E s s.heap [] u → lv_has ls maxL (lv_args 0 av) → W p l e (Rm f k) s m args below meth co s.heap [] 0 0 Q (F0 m 0 ls [])) : CT l y cc maxL ret (Rm f k) av E u Qc := by
  refine Met.ofW (cc := cc) (maxL := maxL) (ret := ret) hy rfl ?_
  intro p e s m args below meth c s₁ B hml hv
  obtain ⟨rfl, hSw, hK⟩ := hv
  have hts := atoms_spec (ws := Cond.code y cc maxL ret :: gW) B.pre
  have hown : s.vm.findClass y.cls = some m.cls := findClass_of_methodNamed B.named
  rw [lg_entry_eq]
  exact body p e s m _ below meth c _ _ rfl ⟨B.exec, B.bytes, hml, ho ▸ hown, fun w hw => hts w (List.mem_cons_of_mem _ hw), hK, B.returns, B.notSynchronized⟩ ⟨hSw, va_S.rf⟩ (lv_entry av hn)
section WR
variable {p : Program} {l : Launch} {e : Env} {R : Room} {s : State} {m : MethodId} {args : Array Value} {below : List Frame} {meth : Method} {co : Code} {H : Heap} {locs : List Loc} {cells slots : Nat} {Q : State → Prop}
variable {cc : ByteArray} {pc : Nat} {ls : Array Slot} {rest : List Value} {E : EV} {u : SS} {nL : Nat} {own : String} {ret : Option FieldType}
theorem rI {S : Type} {post : Int32 → S → Prop} {emb : S → SS} (hQ : MQ below (Q_i E post emb) args s cells slots (eR E) = Q) (F : Fx E p s m args meth co cc nL own (some .int)) {v : S} {r : Int32} (hI : Iv E s H locs (emb v)) (hdg : decode cc pc = .ok (.ireturn, 1)) (hp : post r v) : W p l e R s m args below meth co H locs cells slots Q (F0 m pc ls [.int r]) := by
  rw [← hQ]
  exact W.iret F.1 F.2.1 F.2.2.2.2.2.2.1 (fun t ht _ => ⟨⟨r, v, rfl, hp, by show Sw E _ t.heap; rw [ht]; exact hI.1⟩, hI.2.F ht⟩) hI.2.2.2 hdg F.2.2.2.2.2.2.2
theorem rZ {S : Type} {post : Int32 → S → Prop} {emb : S → SS} {ty : FieldType} (hQ : MQ below (Q_i E post emb) args s cells slots (eR E) = Q) (F : Fx E p s m args meth co cc nL own (some ty)) {v : S} {r : Int32} (hn : narrow ty (.int r) = .int r) (hI : Iv E s H locs (emb v)) (hdg : decode cc pc = .ok (.ireturn, 1)) (hp : post r v) : W p l e R s m args below meth co H locs cells slots Q (F0 m pc ls [.int r]) := by
  rw [← hQ]
  exact W.zret F.1 F.2.1 F.2.2.2.2.2.2.1 hn (fun t ht _ => ⟨⟨r, v, rfl, hp, by show Sw E _ t.heap; rw [ht]; exact hI.1⟩, hI.2.F ht⟩) hI.2.2.2 hdg F.2.2.2.2.2.2.2
theorem rL {S : Type} {post : Int64 → S → Prop} {emb : S → SS} (hQ : MQ below (Q_l E post emb) args s cells slots (eR E) = Q) (F : Fx E p s m args meth co cc nL own (some .long)) {v : S} {r : Int64} (hI : Iv E s H locs (emb v)) (hdg : decode cc pc = .ok (.lreturn, 1)) (hp : post r v) : W p l e R s m args below meth co H locs cells slots Q (F0 m pc ls [.long r]) := by
  rw [← hQ]
  exact W.lret F.1 F.2.1 F.2.2.2.2.2.2.1 (fun t ht _ => ⟨⟨r, v, rfl, hp, by show Sw E _ t.heap; rw [ht]; exact hI.1⟩, hI.2.F ht⟩) hI.2.2.2 hdg F.2.2.2.2.2.2.2
theorem rV {S : Type} {post : S → Prop} {emb : S → SS} (hQ : MQ below (Q_v E post emb) args s cells slots (eR E) = Q) (F : Fx E p s m args meth co cc nL own none) {v : S} (hI : Iv E s H locs (emb v)) (hdg : decode cc pc = .ok (.return_, 1)) (hp : post v) : W p l e R s m args below meth co H locs cells slots Q (F0 m pc ls []) := by
  rw [← hQ]
  exact W.vret F.1 F.2.1 F.2.2.2.2.2.2.1 (fun t ht _ => ⟨⟨v, rfl, hp, by show Sw E _ t.heap; rw [ht]; exact hI.1⟩, hI.2.F ht⟩) hI.2.2.2 hdg F.2.2.2.2.2.2.2
theorem rQ {S : Type} {post : Option Nat → S → Prop} {emb : S → SS} {nm : String} (hQ : MQ below (Q_q E post emb) args s cells slots (eR E) = Q) (F : Fx E p s m args meth co cc nL own (some (.object nm))) {v : S} {a : Nat} (hI : Iv E s H locs (emb v)) (hdg : decode cc pc = .ok (.areturn, 1)) (hp : post (some a) v) : W p l e R s m args below meth co H locs cells slots Q (F0 m pc ls [.ref a]) := by
  rw [← hQ]
  exact W.aret F.1 F.2.1 F.2.2.2.2.2.2.1 (Or.inl ⟨nm, rfl⟩) (Or.inr ⟨a, rfl⟩) (fun t ht _ => ⟨⟨some a, v, rfl, hp, by show Sw E _ t.heap; rw [ht]; exact hI.1⟩, hI.2.F ht⟩) hI.2.2.2 hdg F.2.2.2.2.2.2.2
def FLk (own : String) (idx : Nat) (ref n d : String) : Prop := Cond.fieldLink own idx ref n d ∈ gW ∨ ∃ host, Cond.fieldLinkNest own idx ref n d host ∈ nestL
theorem fG {C : String} {T : u_T} {N ci : Nat} {idx : Nat} {ref : String} (F : Fx E p s m args meth co cc nL own ret) (hI : Iv E s H locs u) (k : Nat) {a : Nat} {fs : List Value} (he : (wl E u)[k]? = some (a, .inr (ci, fs))) (hc : vwCl[ci]? = some (C, T, N)) (hin : ∀ w ∈ u_ws C T N, w ∈ gW) (j : Nat) (hj : j < N) (hL : FLk own idx ref (T j).2.1 (T j).2.2.1) (hs : (T j).1 = ref) {v : Value} (hv : fs[j]? = some v) (hdg : decode cc pc = .ok (.getfield idx, 3))
    (kk : W p l e R s m args below meth co H locs cells slots Q (F0 m (pc + 3) ls (v :: rest))) : W p l e R s m args below meth co H locs cells slots Q (F0 m pc ls (.ref a :: rest)) := by
  rcases hL with h | ⟨host, h⟩
  · exact va_get (ref := ref) F.1 F.2.1 F.2.2.2.2.1 hin F.2.2.2.1 F.2.2.2.2.2.1.1 hI.1.1 k he hc j hj (F.2.2.2.2.1 _ h) (fun x hx => by rw [← hs]; exact hx) hv hdg kk
  · exact va_getN (ref := ref) F.1 F.2.1 F.2.2.2.2.1 hin F.2.2.2.1 F.2.2.2.2.2.1.1 hI.1.1 k he hc j hj (nest_use (nestL_nest _ h) (F.2.2.2.2.2.1.2.1 _ h)) (fun x hx => by rw [← hs]; exact hx) hv hdg kk
theorem fP {C : String} {T : u_T} {N ci : Nat} {idx : Nat} {ref : String} (F : Fx E p s m args meth co cc nL own ret) (hI : Iv E s H locs u) (k : Nat) {a : Nat} {fs : List Value} (he : (wl E u)[k]? = some (a, .inr (ci, fs))) (hc : vwCl[ci]? = some (C, T, N)) (hin : ∀ w ∈ u_ws C T N, w ∈ gW) (ty0 : Nat → FieldType) (hty : ∀ k, k < N → parseFieldDescriptor (T k).2.2.1 = some (ty0 k)) (hnm : ∀ a, a < N → ∀ b, b < N → a ≠ b → (T a).2.1 ≠ (T b).2.1) (j : Nat) (hj : j < N) (hL : FLk own idx ref (T j).2.1 (T j).2.2.1) (hs : (T j).1 = ref) (hfin : (T j).2.2.2 = false) {v : Value} (hn : narrow (ty0 j) v = v) (hfit : fits (ty0 j) v = true) (hl : j < fs.length) {u' : SS} (hu : (wl E u).set k (a, .inr (ci, fs.set j v)) = wl E u') (hdg : decode cc pc = .ok (.putfield idx, 3))
    (kk : ∀ (H1 : Heap) (locs1 : List Loc), Iv E s H1 locs1 u' → W p l e R s m args below meth co H1 locs1 cells slots Q (F0 m (pc + 3) ls rest)) : W p l e R s m args below meth co H locs cells slots Q (F0 m pc ls (v :: .ref a :: rest)) := by
  have g : ∀ (H1 : Heap) (locs1 : List Loc), va_P (eD E) vwCl ((wl E u).set k (a, .inr (ci, fs.set j v))) H1 → va_D (eR E) ((wl E u).set k (a, .inr (ci, fs.set j v))) → va_S (eR E) s.heap H1 locs1 → W p l e R s m args below meth co H1 locs1 cells slots Q (F0 m (pc + 3) ls rest) := fun H1 locs1 h1 h2 h3 => by
    rw [hu] at h1 h2
    exact kk H1 locs1 ⟨⟨h1, h2⟩, h3⟩
  rcases hL with h | ⟨host, h⟩
  · exact va_put (ref := ref) F.1 F.2.1 F.2.2.2.2.1 hin ty0 hty hnm F.2.2.2.1 F.2.2.2.2.2.1.1 hI.1.1 hI.1.2 hI.2 k he hc j hj (F.2.2.2.2.1 _ h) (fun x hx => by rw [← hs]; exact hx) hfin (hty j hj) hn hfit hl hdg g
  · exact va_putN (ref := ref) F.1 F.2.1 F.2.2.2.2.1 hin ty0 hty hnm F.2.2.2.1 F.2.2.2.2.2.1.1 hI.1.1 hI.1.2 hI.2 k he hc j hj (nest_use (nestL_nest _ h) (F.2.2.2.2.2.1.2.1 _ h)) (fun x hx => by rw [← hs]; exact hx) hfin (hty j hj) hn hfit hl hdg g
/-- an int array is a region -/
def IsI (k r n : Nat) : Prop := ∀ (E : EV) (u : SS), (wl E u)[k]? = some (eA E k, .inl (eT E 0, n, .inl (u.1 r))) ∧ ∀ (i : Nat) (x : Int32), (wl E u).set k (eA E k, .inl (eT E 0, n, .inl (upd (u.1 r) i x))) = wl E (up u.1 r i x, u.2)
def IsL (k r : Nat) : Prop := ∀ (E : EV) (u : SS), (wl E u)[k]? = some (eA E k, .inl (eT E 2, 16, .inr (.inl (u.2 r)))) ∧ ∀ (i : Nat) (x : Int64), (wl E u).set k (eA E k, .inl (eT E 2, 16, .inr (.inl (vp_updL (u.2 r) i x)))) = wl E (u.1, upG u.2 r i x)
theorem nI_arr {i n : Nat} (h : i < n) (hn : n < 2 ^ 31) : vp_in (nI i) n ∧ (nI i).toNatClampNeg = i := ⟨vp_in_nI h hn, nI_clamp (by omega)⟩
theorem aIl {k r n : Nat} (F : Fx E p s m args meth co cc nL own ret) (hI : Iv E s H locs u) (h : IsI k r n) {i : Int32} (hin : vp_in i n) (hdg : decode cc pc = .ok (.iaload, 1))
    (kk : W p l e R s m args below meth co H locs cells slots Q (F0 m (pc + 1) ls (.int (u.1 r i.toNatClampNeg) :: rest))) : W p l e R s m args below meth co H locs cells slots Q (F0 m pc ls (.int i :: .ref (eA E k) :: rest)) :=
  va_iald F.1 F.2.1 F.2.2.2.2.2.1.1 hI.1.1 k 0 (h E u).1 rfl hin hdg kk
theorem aIlN {k r n : Nat} (F : Fx E p s m args meth co cc nL own ret) (hI : Iv E s H locs u) (h : IsI k r n) {i : Nat} (hin : i < n) (hn : n < 2 ^ 31) (hdg : decode cc pc = .ok (.iaload, 1))
    (kk : W p l e R s m args below meth co H locs cells slots Q (F0 m (pc + 1) ls (.int (u.1 r i) :: rest))) : W p l e R s m args below meth co H locs cells slots Q (F0 m pc ls (.int (nI i) :: .ref (eA E k) :: rest)) :=
  aIl F hI h (nI_arr hin hn).1 hdg (by rw [(nI_arr hin hn).2]; exact kk)
theorem aIs {k r n : Nat} (F : Fx E p s m args meth co cc nL own ret) (hI : Iv E s H locs u) (h : IsI k r n) {i x : Int32} (hin : vp_in i n) (hdg : decode cc pc = .ok (.iastore, 1))
    (kk : ∀ (H1 : Heap) (locs1 : List Loc), Iv E s H1 locs1 (up u.1 r i.toNatClampNeg x, u.2) → W p l e R s m args below meth co H1 locs1 cells slots Q (F0 m (pc + 1) ls rest)) : W p l e R s m args below meth co H locs cells slots Q (F0 m pc ls (.int x :: .int i :: .ref (eA E k) :: rest)) :=
  va_iast F.1 F.2.1 F.2.2.2.2.2.1.1 hI.1.1 hI.1.2 hI.2 k 0 (h E u).1 rfl hin hdg (fun H1 locs1 h1 h2 h3 => by
    rw [(h E u).2] at h1 h2
    exact kk H1 locs1 ⟨⟨h1, h2⟩, h3⟩)
theorem aIsN {k r n : Nat} (F : Fx E p s m args meth co cc nL own ret) (hI : Iv E s H locs u) (h : IsI k r n) {i : Nat} {x : Int32} (hin : i < n) (hn : n < 2 ^ 31) (hdg : decode cc pc = .ok (.iastore, 1))
    (kk : ∀ (H1 : Heap) (locs1 : List Loc), Iv E s H1 locs1 (up u.1 r i x, u.2) → W p l e R s m args below meth co H1 locs1 cells slots Q (F0 m (pc + 1) ls rest)) : W p l e R s m args below meth co H locs cells slots Q (F0 m pc ls (.int x :: .int (nI i) :: .ref (eA E k) :: rest)) :=
  aIs F hI h (nI_arr hin hn).1 hdg (fun H1 locs1 h1 => kk H1 locs1 (by rw [(nI_arr hin hn).2] at h1; exact h1))
theorem aIn {k r n : Nat} (F : Fx E p s m args meth co cc nL own ret) (hI : Iv E s H locs u) (h : IsI k r n) (hdg : decode cc pc = .ok (.arraylength, 1))
    (kk : W p l e R s m args below meth co H locs cells slots Q (F0 m (pc + 1) ls (.int (nI n) :: rest))) : W p l e R s m args below meth co H locs cells slots Q (F0 m pc ls (.ref (eA E k) :: rest)) :=
  va_alen F.1 F.2.1 F.2.2.2.2.2.1.1 hI.1.1 k 0 (h E u).1 rfl rfl hdg kk
theorem aLlN {k r : Nat} (F : Fx E p s m args meth co cc nL own ret) (hI : Iv E s H locs u) (h : IsL k r) {i : Nat} (hin : i < 16) (hdg : decode cc pc = .ok (.laload, 1))
    (kk : W p l e R s m args below meth co H locs cells slots Q (F0 m (pc + 1) ls (.long (u.2 r i) :: rest))) : W p l e R s m args below meth co H locs cells slots Q (F0 m pc ls (.int (nI i) :: .ref (eA E k) :: rest)) :=
  va_lald F.1 F.2.1 F.2.2.2.2.2.1.1 hI.1.1 k 2 (h E u).1 rfl (nI_arr hin (by decide)).1 hdg (by rw [(nI_arr hin (by decide)).2]; exact kk)
theorem aLsN {k r : Nat} (F : Fx E p s m args meth co cc nL own ret) (hI : Iv E s H locs u) (h : IsL k r) {i : Nat} {x : Int64} (hin : i < 16) (hdg : decode cc pc = .ok (.lastore, 1))
    (kk : ∀ (H1 : Heap) (locs1 : List Loc), Iv E s H1 locs1 (u.1, upG u.2 r i x) → W p l e R s m args below meth co H1 locs1 cells slots Q (F0 m (pc + 1) ls rest)) : W p l e R s m args below meth co H locs cells slots Q (F0 m pc ls (.long x :: .int (nI i) :: .ref (eA E k) :: rest)) :=
  va_last F.1 F.2.1 F.2.2.2.2.2.1.1 hI.1.1 hI.1.2 hI.2 k 2 (h E u).1 rfl (nI_arr hin (by decide)).1 hdg (fun H1 locs1 h1 h2 h3 => by
    rw [(nI_arr hin (by decide)).2, (h E u).2] at h1 h2
    exact kk H1 locs1 ⟨⟨h1, h2⟩, h3⟩)
theorem aLn {k r : Nat} (F : Fx E p s m args meth co cc nL own ret) (hI : Iv E s H locs u) (h : IsL k r) (hdg : decode cc pc = .ok (.arraylength, 1))
    (kk : W p l e R s m args below meth co H locs cells slots Q (F0 m (pc + 1) ls (.int (nI 16) :: rest))) : W p l e R s m args below meth co H locs cells slots Q (F0 m pc ls (.ref (eA E k) :: rest)) :=
  va_alen F.1 F.2.1 F.2.2.2.2.2.1.1 hI.1.1 k 2 (h E u).1 rfl rfl hdg kk
/-- the text's characters -/
theorem aCl (F : Fx E p s m args meth co cc nL own ret) (hI : Iv E s H locs u) {i : Nat} (hin : i < 80) (hdg : decode cc pc = .ok (.caload, 1))
    (kk : W p l e R s m args below meth co H locs cells slots Q (F0 m (pc + 1) ls (.int (u.1 6 i) :: rest))) : W p l e R s m args below meth co H locs cells slots Q (F0 m pc ls (.int (nI i) :: .ref (eA E 4) :: rest)) :=
  va_cald F.1 F.2.1 F.2.2.2.2.2.1.1 hI.1.1 4 1 (show (wl E u)[4]? = some (eA E 4, .inl (eT E 1, 80, .inl (u.1 6))) from rfl) rfl (nI_arr hin (by decide)).1 hdg (by rw [(nI_arr hin (by decide)).2]; exact kk)
theorem set_c (E : EV) (u : SS) (i : Nat) (x : Int32) : (wl E u).set 4 (eA E 4, .inl (eT E 1, 80, .inl (upd (u.1 6) i x))) = wl E (up u.1 6 i x, u.2) := rfl
theorem aCs (F : Fx E p s m args meth co cc nL own ret) (hI : Iv E s H locs u) {i : Nat} {x : Int32} (hx : vp_nar .char x = x) (hin : i < 80) (hdg : decode cc pc = .ok (.castore, 1))
    (kk : ∀ (H1 : Heap) (locs1 : List Loc), Iv E s H1 locs1 (up u.1 6 i x, u.2) → W p l e R s m args below meth co H1 locs1 cells slots Q (F0 m (pc + 1) ls rest)) : W p l e R s m args below meth co H locs cells slots Q (F0 m pc ls (.int x :: .int (nI i) :: .ref (eA E 4) :: rest)) :=
  va_cast F.1 F.2.1 F.2.2.2.2.2.1.1 hI.1.1 hI.1.2 hI.2 4 1 (show (wl E u)[4]? = some (eA E 4, .inl (eT E 1, 80, .inl (u.1 6))) from rfl) rfl (nI_arr hin (by decide)).1 hdg (fun H1 locs1 h1 h2 h3 => by
    rw [(nI_arr hin (by decide)).2, hx, set_c] at h1 h2
    exact kk H1 locs1 ⟨⟨h1, h2⟩, h3⟩)
theorem aCn (F : Fx E p s m args meth co cc nL own ret) (hI : Iv E s H locs u) (hdg : decode cc pc = .ok (.arraylength, 1))
    (kk : W p l e R s m args below meth co H locs cells slots Q (F0 m (pc + 1) ls (.int (nI 80) :: rest))) : W p l e R s m args below meth co H locs cells slots Q (F0 m pc ls (.ref (eA E 4) :: rest)) :=
  va_alen F.1 F.2.1 F.2.2.2.2.2.1.1 hI.1.1 4 1 (show (wl E u)[4]? = some (eA E 4, .inl (eT E 1, 80, .inl (u.1 6))) from rfl) rfl rfl hdg kk
/-- the model's words -/
theorem aWl (F : Fx E p s m args meth co cc nL own ret) (hI : Iv E s H locs u) {i : Nat} (hin : i < 7) (hdg : decode cc pc = .ok (.laload, 1))
    (kk : W p l e R s m args below meth co H locs cells slots Q (F0 m (pc + 1) ls (.long (wordsF i) :: rest))) : W p l e R s m args below meth co H locs cells slots Q (F0 m pc ls (.int (nI i) :: .ref (eA E 53) :: rest)) :=
  va_lald F.1 F.2.1 F.2.2.2.2.2.1.1 hI.1.1 53 2 (show (wl E u)[53]? = some (eA E 53, .inl (eT E 2, 7, .inr (.inl wordsF))) from rfl) rfl (nI_arr hin (by decide)).1 hdg (by rw [(nI_arr hin (by decide)).2]; exact kk)
/-- the states' row, the streams' row of rows -/
theorem aSl (F : Fx E p s m args meth co cc nL own ret) (hI : Iv E s H locs u) {i : Nat} (hin : i < 4) (hdg : decode cc pc = .ok (.aaload, 1))
    (kk : W p l e R s m args below meth co H locs cells slots Q (F0 m (pc + 1) ls (.ref (eA E (19 + 3 * i)) :: rest))) : W p l e R s m args below meth co H locs cells slots Q (F0 m pc ls (.int (nI i) :: .ref (eA E 2) :: rest)) :=
  va_aldq F.1 F.2.1 F.2.2.2.2.2.1.1 hI.1.1 2 3 (show (wl E u)[2]? = some (eA E 2, .inl (eT E 3, 4, .inr (.inr (.inr (.inr (fun i => some (eA E (19 + 3 * i)))))))) from rfl) rfl (nI_arr hin (by decide)).1 hdg (by rw [(nI_arr hin (by decide)).2]; exact kk)
theorem aSn (F : Fx E p s m args meth co cc nL own ret) (hI : Iv E s H locs u) (hdg : decode cc pc = .ok (.arraylength, 1))
    (kk : W p l e R s m args below meth co H locs cells slots Q (F0 m (pc + 1) ls (.int (nI 4) :: rest))) : W p l e R s m args below meth co H locs cells slots Q (F0 m pc ls (.ref (eA E 2) :: rest)) :=
  va_alen F.1 F.2.1 F.2.2.2.2.2.1.1 hI.1.1 2 3 (show (wl E u)[2]? = some (eA E 2, .inl (eT E 3, 4, .inr (.inr (.inr (.inr (fun i => some (eA E (19 + 3 * i)))))))) from rfl) rfl rfl hdg kk
theorem aRn (F : Fx E p s m args meth co cc nL own ret) (hI : Iv E s H locs u) (hdg : decode cc pc = .ok (.arraylength, 1))
    (kk : W p l e R s m args below meth co H locs cells slots Q (F0 m (pc + 1) ls (.int (nI 16) :: rest))) : W p l e R s m args below meth co H locs cells slots Q (F0 m pc ls (.ref (eA E 31) :: rest)) :=
  va_alen F.1 F.2.1 F.2.2.2.2.2.1.1 hI.1.1 31 4 (show (wl E u)[31]? = some (eA E 31, .inl (eT E 4, 16, .inr (.inr (.inr (.inr (fun i => some (eA E (32 + i)))))))) from rfl) rfl rfl hdg kk
theorem aRl (F : Fx E p s m args meth co cc nL own ret) (hI : Iv E s H locs u) {i : Nat} (hin : i < 16) (hdg : decode cc pc = .ok (.aaload, 1))
    (kk : W p l e R s m args below meth co H locs cells slots Q (F0 m (pc + 1) ls (.ref (eA E (32 + i)) :: rest))) : W p l e R s m args below meth co H locs cells slots Q (F0 m pc ls (.int (nI i) :: .ref (eA E 31) :: rest)) := by
  have hv : vp_in (nI i) 16 ∧ (nI i).toNatClampNeg = i := nI_arr hin (by decide)
  exact W.aald (v := .ref (eA E (32 + i))) (ty := .array .long) F.1 F.2.1 (hI.1.1 31 _ (show (wl E u)[31]? = some (eA E 31, .inl (eT E 4, 16, .inr (.inr (.inr (.inr (fun i => some (eA E (32 + i)))))))) from rfl)) ((F.2.2.2.2.2.1.1.2 4 _ rfl).1 16 (fun j => va_rf (some (eA E (32 + j))))) rfl (fun q => by cases q) (by show ¬ (nI i < 0 ∨ (arrV _ _ _).slots.size ≤ _); rw [arrV_size]; exact hv.1) (by show (arrV _ _ _).slots[_]? = _; rw [hv.2, arrV_read _ _ hin]; rfl) rfl rfl hdg kk
end WR
end
section
def LkB (own : String) (idx : Nat) (y : MethodName) (cc : ByteArray) (maxL : Nat) (ret : Option FieldType) (n : Nat) : Prop :=
  (Cond.methodLink own idx y ∈ gW ∨ ∃ host, Cond.methodLinkNest own idx y host ∈ nestL) ∧ Cond.initialized y.cls ∈ gW ∧ Cond.code y cc maxL ret ∈ gW ∧ y.cls ≠ "java/lang/invoke/MethodHandle" ∧ y.cls ≠ "java/lang/invoke/VarHandle" ∧ (parseMethodDescriptor y.desc).map (fun d => d.parameters.length) = some n
def LkV (own : String) (idx : Nat) (C : String) (y : MethodName) (cc : ByteArray) (maxL : Nat) (ret : Option FieldType) (n : Nat) : Prop := LkB own idx y cc maxL ret n ∧ Cond.instanceMethod y ∈ gW ∧ Cond.selects C y y ∈ gW
def LkS (own : String) (idx : Nat) (y : MethodName) (cc : ByteArray) (maxL : Nat) (ret : Option FieldType) (n : Nat) : Prop := LkB own idx y cc maxL ret n ∧ Cond.static y ∈ gW
theorem L_X0_9 : FLk RX0 9 "ShareStreams$Bench" "length" "I" := Or.inl (gW_t (List.mem_of_getElem? (i := 29) (by decide +kernel)) (by decide +kernel))
theorem L_X0_15 : FLk RX0 15 "ShareStreams$Bench" "size" "I" := Or.inl (gW_t (List.mem_of_getElem? (i := 31) (by decide +kernel)) (by decide +kernel))
theorem L_X0_18 : FLk RX0 18 "ShareStreams$Bench" "kinds" "[I" := Or.inl (gW_t (List.mem_of_getElem? (i := 35) (by decide +kernel)) (by decide +kernel))
theorem L_X0_22 : FLk RX0 22 "ShareStreams$Bench" "numbers" "[I" := Or.inl (gW_t (List.mem_of_getElem? (i := 36) (by decide +kernel)) (by decide +kernel))
theorem M_X0_25 : LkS RX0 25 yX5_elementAt cX5_elementAt 2 (some .int) 2 := ⟨⟨Or.inr ⟨"ShareStreams", by decide +kernel⟩, gW_t (List.mem_of_getElem? (i := 1) (by decide +kernel)) (by decide +kernel), gW_t (List.mem_of_getElem? (i := 180) (by decide +kernel)) (by decide +kernel), by decide +kernel, by decide +kernel, by decide +kernel⟩, gW_t (List.mem_of_getElem? (i := 179) (by decide +kernel)) (by decide +kernel)⟩
theorem M_X0_29 : LkS RX0 29 yX5_setElement cX5_setElement 3 none 3 := ⟨⟨Or.inr ⟨"ShareStreams", by decide +kernel⟩, gW_t (List.mem_of_getElem? (i := 1) (by decide +kernel)) (by decide +kernel), gW_t (List.mem_of_getElem? (i := 191) (by decide +kernel)) (by decide +kernel), by decide +kernel, by decide +kernel, by decide +kernel⟩, gW_t (List.mem_of_getElem? (i := 190) (by decide +kernel)) (by decide +kernel)⟩
theorem M_X0_33 : LkV RX0 33 RX0 yX0_kindOf cX0_kindOf 2 (some .int) 1 := ⟨⟨Or.inl (gW_t (List.mem_of_getElem? (i := 174) (by decide +kernel)) (by decide +kernel)), gW_t (List.mem_of_getElem? (i := 2) (by decide +kernel)) (by decide +kernel), gW_t (List.mem_of_getElem? (i := 177) (by decide +kernel)) (by decide +kernel), by decide +kernel, by decide +kernel, by decide +kernel⟩, gW_t (List.mem_of_getElem? (i := 176) (by decide +kernel)) (by decide +kernel), gW_of (List.mem_append_left _ (by decide +kernel)) (by decide +kernel)⟩
theorem M_X0_37 : LkV RX0 37 RX0 yX0_setNumber cX0_setNumber 4 none 3 := ⟨⟨Or.inl (gW_t (List.mem_of_getElem? (i := 192) (by decide +kernel)) (by decide +kernel)), gW_t (List.mem_of_getElem? (i := 2) (by decide +kernel)) (by decide +kernel), gW_t (List.mem_of_getElem? (i := 195) (by decide +kernel)) (by decide +kernel), by decide +kernel, by decide +kernel, by decide +kernel⟩, gW_t (List.mem_of_getElem? (i := 194) (by decide +kernel)) (by decide +kernel), gW_of (List.mem_append_left _ (by decide +kernel)) (by decide +kernel)⟩
theorem M_X0_41 : LkV RX0 41 RX0 yX0_numberOf cX0_numberOf 3 (some .int) 2 := ⟨⟨Or.inl (gW_t (List.mem_of_getElem? (i := 181) (by decide +kernel)) (by decide +kernel)), gW_t (List.mem_of_getElem? (i := 2) (by decide +kernel)) (by decide +kernel), gW_t (List.mem_of_getElem? (i := 184) (by decide +kernel)) (by decide +kernel), by decide +kernel, by decide +kernel, by decide +kernel⟩, gW_t (List.mem_of_getElem? (i := 183) (by decide +kernel)) (by decide +kernel), gW_of (List.mem_append_left _ (by decide +kernel)) (by decide +kernel)⟩
theorem M_X0_45 : LkV RX0 45 RX0 yX0_add cX0_add 5 none 4 := ⟨⟨Or.inl (gW_t (List.mem_of_getElem? (i := 185) (by decide +kernel)) (by decide +kernel)), gW_t (List.mem_of_getElem? (i := 2) (by decide +kernel)) (by decide +kernel), gW_t (List.mem_of_getElem? (i := 188) (by decide +kernel)) (by decide +kernel), by decide +kernel, by decide +kernel, by decide +kernel⟩, gW_t (List.mem_of_getElem? (i := 187) (by decide +kernel)) (by decide +kernel), gW_of (List.mem_append_left _ (by decide +kernel)) (by decide +kernel)⟩
theorem M_X0_49 : LkV RX0 49 RX0 yX0_addAll cX0_addAll 3 none 1 := ⟨⟨Or.inl (gW_t (List.mem_of_getElem? (i := 170) (by decide +kernel)) (by decide +kernel)), gW_t (List.mem_of_getElem? (i := 2) (by decide +kernel)) (by decide +kernel), gW_t (List.mem_of_getElem? (i := 173) (by decide +kernel)) (by decide +kernel), by decide +kernel, by decide +kernel, by decide +kernel⟩, gW_t (List.mem_of_getElem? (i := 172) (by decide +kernel)) (by decide +kernel), gW_of (List.mem_append_left _ (by decide +kernel)) (by decide +kernel)⟩
theorem L_X1_9 : FLk RX1 9 "ShareStreams$CircuitText" "characters" "[C" := Or.inl (gW_t (List.mem_of_getElem? (i := 73) (by decide +kernel)) (by decide +kernel))
theorem L_X1_15 : FLk RX1 15 "ShareStreams$CircuitText" "size" "I" := Or.inl (gW_t (List.mem_of_getElem? (i := 74) (by decide +kernel)) (by decide +kernel))
theorem L_X1_19 : FLk RX1 19 "ShareStreams$CircuitText" "place" "I" := Or.inl (gW_t (List.mem_of_getElem? (i := 76) (by decide +kernel)) (by decide +kernel))
theorem L_X1_22 : FLk RX1 22 "ShareStreams$Bench" "size" "I" := Or.inr ⟨"ShareStreams", by decide +kernel⟩
theorem M_X1_25 : LkV RX1 25 RX1 yX1_readLine cX1_readLine 6 (some .boolean) 1 := ⟨⟨Or.inl (gW_t (List.mem_of_getElem? (i := 250) (by decide +kernel)) (by decide +kernel)), gW_t (List.mem_of_getElem? (i := 4) (by decide +kernel)) (by decide +kernel), gW_t (List.mem_of_getElem? (i := 253) (by decide +kernel)) (by decide +kernel), by decide +kernel, by decide +kernel, by decide +kernel⟩, gW_t (List.mem_of_getElem? (i := 252) (by decide +kernel)) (by decide +kernel), gW_of (List.mem_append_left _ (by decide +kernel)) (by decide +kernel)⟩
theorem M_X1_29 : LkV RX1 29 RX1 yX1_take cX1_take 2 (some .boolean) 1 := ⟨⟨Or.inl (gW_t (List.mem_of_getElem? (i := 328) (by decide +kernel)) (by decide +kernel)), gW_t (List.mem_of_getElem? (i := 4) (by decide +kernel)) (by decide +kernel), gW_t (List.mem_of_getElem? (i := 331) (by decide +kernel)) (by decide +kernel), by decide +kernel, by decide +kernel, by decide +kernel⟩, gW_t (List.mem_of_getElem? (i := 330) (by decide +kernel)) (by decide +kernel), gW_of (List.mem_append_left _ (by decide +kernel)) (by decide +kernel)⟩
theorem M_X1_33 : LkV RX1 33 RX1 yX1_kindHere cX1_kindHere 3 (some .int) 0 := ⟨⟨Or.inl (gW_t (List.mem_of_getElem? (i := 254) (by decide +kernel)) (by decide +kernel)), gW_t (List.mem_of_getElem? (i := 4) (by decide +kernel)) (by decide +kernel), gW_t (List.mem_of_getElem? (i := 257) (by decide +kernel)) (by decide +kernel), by decide +kernel, by decide +kernel, by decide +kernel⟩, gW_t (List.mem_of_getElem? (i := 256) (by decide +kernel)) (by decide +kernel), gW_of (List.mem_append_left _ (by decide +kernel)) (by decide +kernel)⟩
theorem M_X1_37 : LkS RX1 37 yX1_wordOfKind cX1_wordOfKind 1 (some (.object "java/lang/String")) 1 := ⟨⟨Or.inl (gW_t (List.mem_of_getElem? (i := 258) (by decide +kernel)) (by decide +kernel)), gW_t (List.mem_of_getElem? (i := 4) (by decide +kernel)) (by decide +kernel), gW_t (List.mem_of_getElem? (i := 260) (by decide +kernel)) (by decide +kernel), by decide +kernel, by decide +kernel, by decide +kernel⟩, gW_t (List.mem_of_getElem? (i := 259) (by decide +kernel)) (by decide +kernel)⟩
theorem M_X1_41 : LkV RX1 41 RX1 yX1_takeWord cX1_takeWord 3 (some .boolean) 1 := ⟨⟨Or.inl (gW_t (List.mem_of_getElem? (i := 316) (by decide +kernel)) (by decide +kernel)), gW_t (List.mem_of_getElem? (i := 4) (by decide +kernel)) (by decide +kernel), gW_t (List.mem_of_getElem? (i := 319) (by decide +kernel)) (by decide +kernel), by decide +kernel, by decide +kernel, by decide +kernel⟩, gW_t (List.mem_of_getElem? (i := 318) (by decide +kernel)) (by decide +kernel), gW_of (List.mem_append_left _ (by decide +kernel)) (by decide +kernel)⟩
theorem M_X1_45 : LkV RX1 45 RX0 yX0_add cX0_add 5 none 4 := ⟨⟨Or.inr ⟨"ShareStreams", by decide +kernel⟩, gW_t (List.mem_of_getElem? (i := 2) (by decide +kernel)) (by decide +kernel), gW_t (List.mem_of_getElem? (i := 188) (by decide +kernel)) (by decide +kernel), by decide +kernel, by decide +kernel, by decide +kernel⟩, gW_t (List.mem_of_getElem? (i := 187) (by decide +kernel)) (by decide +kernel), gW_of (List.mem_append_left _ (by decide +kernel)) (by decide +kernel)⟩
theorem M_X1_49 : LkS RX1 49 yX5_numbersOfKind cX5_numbersOfKind 1 (some .int) 1 := ⟨⟨Or.inr ⟨"ShareStreams", by decide +kernel⟩, gW_t (List.mem_of_getElem? (i := 1) (by decide +kernel)) (by decide +kernel), gW_t (List.mem_of_getElem? (i := 335) (by decide +kernel)) (by decide +kernel), by decide +kernel, by decide +kernel, by decide +kernel⟩, gW_t (List.mem_of_getElem? (i := 334) (by decide +kernel)) (by decide +kernel)⟩
theorem M_X1_53 : LkS RX1 53 yX1_leastNumber cX1_leastNumber 3 (some .int) 2 := ⟨⟨Or.inl (gW_t (List.mem_of_getElem? (i := 339) (by decide +kernel)) (by decide +kernel)), gW_t (List.mem_of_getElem? (i := 4) (by decide +kernel)) (by decide +kernel), gW_t (List.mem_of_getElem? (i := 341) (by decide +kernel)) (by decide +kernel), by decide +kernel, by decide +kernel, by decide +kernel⟩, gW_t (List.mem_of_getElem? (i := 340) (by decide +kernel)) (by decide +kernel)⟩
theorem M_X1_57 : LkS RX1 57 yX1_mostNumber cX1_mostNumber 2 (some .int) 2 := ⟨⟨Or.inl (gW_t (List.mem_of_getElem? (i := 342) (by decide +kernel)) (by decide +kernel)), gW_t (List.mem_of_getElem? (i := 4) (by decide +kernel)) (by decide +kernel), gW_t (List.mem_of_getElem? (i := 344) (by decide +kernel)) (by decide +kernel), by decide +kernel, by decide +kernel, by decide +kernel⟩, gW_t (List.mem_of_getElem? (i := 343) (by decide +kernel)) (by decide +kernel)⟩
theorem M_X1_60 : LkV RX1 60 RX1 yX1_readNumber cX1_readNumber 5 (some .int) 2 := ⟨⟨Or.inl (gW_t (List.mem_of_getElem? (i := 350) (by decide +kernel)) (by decide +kernel)), gW_t (List.mem_of_getElem? (i := 4) (by decide +kernel)) (by decide +kernel), gW_t (List.mem_of_getElem? (i := 353) (by decide +kernel)) (by decide +kernel), by decide +kernel, by decide +kernel, by decide +kernel⟩, gW_t (List.mem_of_getElem? (i := 352) (by decide +kernel)) (by decide +kernel), gW_of (List.mem_append_left _ (by decide +kernel)) (by decide +kernel)⟩
theorem M_X1_63 : LkV RX1 63 RX0 yX0_setNumber cX0_setNumber 4 none 3 := ⟨⟨Or.inr ⟨"ShareStreams", by decide +kernel⟩, gW_t (List.mem_of_getElem? (i := 2) (by decide +kernel)) (by decide +kernel), gW_t (List.mem_of_getElem? (i := 195) (by decide +kernel)) (by decide +kernel), by decide +kernel, by decide +kernel, by decide +kernel⟩, gW_t (List.mem_of_getElem? (i := 194) (by decide +kernel)) (by decide +kernel), gW_of (List.mem_append_left _ (by decide +kernel)) (by decide +kernel)⟩
theorem M_X1_67 : LkV RX1 67 RJ0 yJ0_isEmpty_aae02 cJ0_isEmpty_aae02 1 (some .boolean) 0 := ⟨⟨Or.inl (gW_t (List.mem_of_getElem? (i := 268) (by decide +kernel)) (by decide +kernel)), gW_t (List.mem_of_getElem? (i := 9) (by decide +kernel)) (by decide +kernel), gW_t (List.mem_of_getElem? (i := 271) (by decide +kernel)) (by decide +kernel), by decide +kernel, by decide +kernel, by decide +kernel⟩, gW_t (List.mem_of_getElem? (i := 269) (by decide +kernel)) (by decide +kernel), gW_t (List.mem_of_getElem? (i := 270) (by decide +kernel)) (by decide +kernel)⟩
theorem M_X1_73 : LkV RX1 73 RJ0 yJ0_charAt_5068e cJ0_charAt_5068e 2 (some .char) 1 := ⟨⟨Or.inl (gW_t (List.mem_of_getElem? (i := 272) (by decide +kernel)) (by decide +kernel)), gW_t (List.mem_of_getElem? (i := 9) (by decide +kernel)) (by decide +kernel), gW_t (List.mem_of_getElem? (i := 275) (by decide +kernel)) (by decide +kernel), by decide +kernel, by decide +kernel, by decide +kernel⟩, gW_t (List.mem_of_getElem? (i := 273) (by decide +kernel)) (by decide +kernel), gW_t (List.mem_of_getElem? (i := 274) (by decide +kernel)) (by decide +kernel)⟩
theorem M_X1_77 : LkV RX1 77 RX1 yX1_isHere cX1_isHere 2 (some .boolean) 1 := ⟨⟨Or.inl (gW_t (List.mem_of_getElem? (i := 312) (by decide +kernel)) (by decide +kernel)), gW_t (List.mem_of_getElem? (i := 4) (by decide +kernel)) (by decide +kernel), gW_t (List.mem_of_getElem? (i := 315) (by decide +kernel)) (by decide +kernel), by decide +kernel, by decide +kernel, by decide +kernel⟩, gW_t (List.mem_of_getElem? (i := 314) (by decide +kernel)) (by decide +kernel), gW_of (List.mem_append_left _ (by decide +kernel)) (by decide +kernel)⟩
theorem M_X1_94 : LkS RX1 94 yX5_linesOfKind cX5_linesOfKind 1 (some .int) 1 := ⟨⟨Or.inr ⟨"ShareStreams", by decide +kernel⟩, gW_t (List.mem_of_getElem? (i := 1) (by decide +kernel)) (by decide +kernel), gW_t (List.mem_of_getElem? (i := 347) (by decide +kernel)) (by decide +kernel), by decide +kernel, by decide +kernel, by decide +kernel⟩, gW_t (List.mem_of_getElem? (i := 346) (by decide +kernel)) (by decide +kernel)⟩
theorem M_X1_97 : LkV RX1 97 RX1 yX1_digitHere cX1_digitHere 2 (some .int) 0 := ⟨⟨Or.inl (gW_t (List.mem_of_getElem? (i := 354) (by decide +kernel)) (by decide +kernel)), gW_t (List.mem_of_getElem? (i := 4) (by decide +kernel)) (by decide +kernel), gW_t (List.mem_of_getElem? (i := 357) (by decide +kernel)) (by decide +kernel), by decide +kernel, by decide +kernel, by decide +kernel⟩, gW_t (List.mem_of_getElem? (i := 356) (by decide +kernel)) (by decide +kernel), gW_of (List.mem_append_left _ (by decide +kernel)) (by decide +kernel)⟩
theorem M_X1_100 : LkV RX1 100 RJ0 yJ0_length_8abf5 cJ0_length_8abf5 1 (some .int) 0 := ⟨⟨Or.inl (gW_t (List.mem_of_getElem? (i := 320) (by decide +kernel)) (by decide +kernel)), gW_t (List.mem_of_getElem? (i := 9) (by decide +kernel)) (by decide +kernel), gW_t (List.mem_of_getElem? (i := 323) (by decide +kernel)) (by decide +kernel), by decide +kernel, by decide +kernel, by decide +kernel⟩, gW_t (List.mem_of_getElem? (i := 321) (by decide +kernel)) (by decide +kernel), gW_t (List.mem_of_getElem? (i := 322) (by decide +kernel)) (by decide +kernel)⟩
theorem L_X2_9 : FLk RX2 9 "ShareStreams$Figures" "exactShares" "[I" := Or.inl (gW_t (List.mem_of_getElem? (i := 91) (by decide +kernel)) (by decide +kernel))
theorem L_X2_15 : FLk RX2 15 "ShareStreams$Figures" "depths" "[I" := Or.inl (gW_t (List.mem_of_getElem? (i := 92) (by decide +kernel)) (by decide +kernel))
theorem L_X2_18 : FLk RX2 18 "ShareStreams$Figures" "origins" "[I" := Or.inl (gW_t (List.mem_of_getElem? (i := 93) (by decide +kernel)) (by decide +kernel))
theorem L_X2_21 : FLk RX2 21 "ShareStreams$Bench" "size" "I" := Or.inr ⟨"ShareStreams", by decide +kernel⟩
theorem M_X2_27 : LkV RX2 27 RX2 yX2_exactShareIn cX2_exactShareIn 6 (some .int) 2 := ⟨⟨Or.inl (gW_t (List.mem_of_getElem? (i := 456) (by decide +kernel)) (by decide +kernel)), gW_t (List.mem_of_getElem? (i := 5) (by decide +kernel)) (by decide +kernel), gW_t (List.mem_of_getElem? (i := 459) (by decide +kernel)) (by decide +kernel), by decide +kernel, by decide +kernel, by decide +kernel⟩, gW_t (List.mem_of_getElem? (i := 458) (by decide +kernel)) (by decide +kernel), gW_of (List.mem_append_left _ (by decide +kernel)) (by decide +kernel)⟩
theorem M_X2_31 : LkS RX2 31 yX5_setElement cX5_setElement 3 none 3 := ⟨⟨Or.inr ⟨"ShareStreams", by decide +kernel⟩, gW_t (List.mem_of_getElem? (i := 1) (by decide +kernel)) (by decide +kernel), gW_t (List.mem_of_getElem? (i := 191) (by decide +kernel)) (by decide +kernel), by decide +kernel, by decide +kernel, by decide +kernel⟩, gW_t (List.mem_of_getElem? (i := 190) (by decide +kernel)) (by decide +kernel)⟩
theorem M_X2_35 : LkV RX2 35 RX2 yX2_depthIn cX2_depthIn 6 (some .int) 2 := ⟨⟨Or.inl (gW_t (List.mem_of_getElem? (i := 476) (by decide +kernel)) (by decide +kernel)), gW_t (List.mem_of_getElem? (i := 5) (by decide +kernel)) (by decide +kernel), gW_t (List.mem_of_getElem? (i := 479) (by decide +kernel)) (by decide +kernel), by decide +kernel, by decide +kernel, by decide +kernel⟩, gW_t (List.mem_of_getElem? (i := 478) (by decide +kernel)) (by decide +kernel), gW_of (List.mem_append_left _ (by decide +kernel)) (by decide +kernel)⟩
theorem M_X2_38 : LkV RX2 38 RX2 yX2_originsIn cX2_originsIn 6 (some .int) 2 := ⟨⟨Or.inl (gW_t (List.mem_of_getElem? (i := 488) (by decide +kernel)) (by decide +kernel)), gW_t (List.mem_of_getElem? (i := 5) (by decide +kernel)) (by decide +kernel), gW_t (List.mem_of_getElem? (i := 491) (by decide +kernel)) (by decide +kernel), by decide +kernel, by decide +kernel, by decide +kernel⟩, gW_t (List.mem_of_getElem? (i := 490) (by decide +kernel)) (by decide +kernel), gW_of (List.mem_append_left _ (by decide +kernel)) (by decide +kernel)⟩
theorem M_X2_41 : LkS RX2 41 yX5_elementAt cX5_elementAt 2 (some .int) 2 := ⟨⟨Or.inr ⟨"ShareStreams", by decide +kernel⟩, gW_t (List.mem_of_getElem? (i := 1) (by decide +kernel)) (by decide +kernel), gW_t (List.mem_of_getElem? (i := 180) (by decide +kernel)) (by decide +kernel), by decide +kernel, by decide +kernel, by decide +kernel⟩, gW_t (List.mem_of_getElem? (i := 179) (by decide +kernel)) (by decide +kernel)⟩
theorem M_X2_45 : LkS RX2 45 yJ6_bitCount_0f7a4 cJ6_bitCount_0f7a4 1 (some .int) 1 := ⟨⟨Or.inl (gW_t (List.mem_of_getElem? (i := 513) (by decide +kernel)) (by decide +kernel)), gW_t (List.mem_of_getElem? (i := 14) (by decide +kernel)) (by decide +kernel), gW_t (List.mem_of_getElem? (i := 515) (by decide +kernel)) (by decide +kernel), by decide +kernel, by decide +kernel, by decide +kernel⟩, gW_t (List.mem_of_getElem? (i := 514) (by decide +kernel)) (by decide +kernel)⟩
theorem M_X2_51 : LkV RX2 51 RX2 yX2_depthOf cX2_depthOf 2 (some .int) 1 := ⟨⟨Or.inl (gW_t (List.mem_of_getElem? (i := 481) (by decide +kernel)) (by decide +kernel)), gW_t (List.mem_of_getElem? (i := 5) (by decide +kernel)) (by decide +kernel), gW_t (List.mem_of_getElem? (i := 484) (by decide +kernel)) (by decide +kernel), by decide +kernel, by decide +kernel, by decide +kernel⟩, gW_t (List.mem_of_getElem? (i := 483) (by decide +kernel)) (by decide +kernel), gW_of (List.mem_append_left _ (by decide +kernel)) (by decide +kernel)⟩
theorem M_X2_54 : Cond.methodLink RX2 54 Lib.Math.max.name ∈ gW := gW_t (List.mem_of_getElem? (i := 485) (by decide +kernel)) (by decide +kernel)
theorem M_X2_60 : LkV RX2 60 RX0 yX0_numberOf cX0_numberOf 3 (some .int) 2 := ⟨⟨Or.inr ⟨"ShareStreams", by decide +kernel⟩, gW_t (List.mem_of_getElem? (i := 2) (by decide +kernel)) (by decide +kernel), gW_t (List.mem_of_getElem? (i := 184) (by decide +kernel)) (by decide +kernel), by decide +kernel, by decide +kernel, by decide +kernel⟩, gW_t (List.mem_of_getElem? (i := 183) (by decide +kernel)) (by decide +kernel), gW_of (List.mem_append_left _ (by decide +kernel)) (by decide +kernel)⟩
theorem M_X2_63 : LkV RX2 63 RX2 yX2_exactShareOf cX2_exactShareOf 2 (some .int) 1 := ⟨⟨Or.inl (gW_t (List.mem_of_getElem? (i := 461) (by decide +kernel)) (by decide +kernel)), gW_t (List.mem_of_getElem? (i := 5) (by decide +kernel)) (by decide +kernel), gW_t (List.mem_of_getElem? (i := 464) (by decide +kernel)) (by decide +kernel), by decide +kernel, by decide +kernel, by decide +kernel⟩, gW_t (List.mem_of_getElem? (i := 463) (by decide +kernel)) (by decide +kernel), gW_of (List.mem_append_left _ (by decide +kernel)) (by decide +kernel)⟩
theorem M_X2_66 : LkV RX2 66 RX0 yX0_kindOf cX0_kindOf 2 (some .int) 1 := ⟨⟨Or.inr ⟨"ShareStreams", by decide +kernel⟩, gW_t (List.mem_of_getElem? (i := 2) (by decide +kernel)) (by decide +kernel), gW_t (List.mem_of_getElem? (i := 177) (by decide +kernel)) (by decide +kernel), by decide +kernel, by decide +kernel, by decide +kernel⟩, gW_t (List.mem_of_getElem? (i := 176) (by decide +kernel)) (by decide +kernel), gW_of (List.mem_append_left _ (by decide +kernel)) (by decide +kernel)⟩
theorem M_X2_69 : LkS RX2 69 yX2_productOf cX2_productOf 4 (some .int) 2 := ⟨⟨Or.inl (gW_t (List.mem_of_getElem? (i := 467) (by decide +kernel)) (by decide +kernel)), gW_t (List.mem_of_getElem? (i := 5) (by decide +kernel)) (by decide +kernel), gW_t (List.mem_of_getElem? (i := 469) (by decide +kernel)) (by decide +kernel), by decide +kernel, by decide +kernel, by decide +kernel⟩, gW_t (List.mem_of_getElem? (i := 468) (by decide +kernel)) (by decide +kernel)⟩
theorem M_X2_73 : LkS RX2 73 yX2_mixOf cX2_mixOf 6 (some .int) 3 := ⟨⟨Or.inl (gW_t (List.mem_of_getElem? (i := 471) (by decide +kernel)) (by decide +kernel)), gW_t (List.mem_of_getElem? (i := 5) (by decide +kernel)) (by decide +kernel), gW_t (List.mem_of_getElem? (i := 473) (by decide +kernel)) (by decide +kernel), by decide +kernel, by decide +kernel, by decide +kernel⟩, gW_t (List.mem_of_getElem? (i := 472) (by decide +kernel)) (by decide +kernel)⟩
theorem K_X2_77 : Cond.constant RX2 77 (65536) ∈ gW := gW_t (List.mem_of_getElem? (i := 474) (by decide +kernel)) (by decide +kernel)
theorem K_X2_78 : Cond.constantLong RX2 78 (65536) ∈ gW := gW_t (List.mem_of_getElem? (i := 470) (by decide +kernel)) (by decide +kernel)
theorem M_X2_80 : LkS RX2 80 yX5_linesOfKind cX5_linesOfKind 1 (some .int) 1 := ⟨⟨Or.inr ⟨"ShareStreams", by decide +kernel⟩, gW_t (List.mem_of_getElem? (i := 1) (by decide +kernel)) (by decide +kernel), gW_t (List.mem_of_getElem? (i := 347) (by decide +kernel)) (by decide +kernel), by decide +kernel, by decide +kernel, by decide +kernel⟩, gW_t (List.mem_of_getElem? (i := 346) (by decide +kernel)) (by decide +kernel)⟩
theorem L_X3_11 : FLk RX3 11 "ShareStreams$History" "states" "[LShareStreams$Bench;" := Or.inl (gW_t (List.mem_of_getElem? (i := 56) (by decide +kernel)) (by decide +kernel))
theorem L_X3_17 : FLk RX3 17 "ShareStreams$History" "oldest" "I" := Or.inl (gW_t (List.mem_of_getElem? (i := 57) (by decide +kernel)) (by decide +kernel))
theorem L_X3_21 : FLk RX3 21 "ShareStreams$History" "size" "I" := Or.inl (gW_t (List.mem_of_getElem? (i := 58) (by decide +kernel)) (by decide +kernel))
theorem M_X3_25 : LkV RX3 25 RX3 yX3_stateAt cX3_stateAt 3 (some (.object "ShareStreams$Bench")) 1 := ⟨⟨Or.inl (gW_t (List.mem_of_getElem? (i := 159) (by decide +kernel)) (by decide +kernel)), gW_t (List.mem_of_getElem? (i := 3) (by decide +kernel)) (by decide +kernel), gW_t (List.mem_of_getElem? (i := 162) (by decide +kernel)) (by decide +kernel), by decide +kernel, by decide +kernel, by decide +kernel⟩, gW_t (List.mem_of_getElem? (i := 161) (by decide +kernel)) (by decide +kernel), gW_of (List.mem_append_left _ (by decide +kernel)) (by decide +kernel)⟩
theorem M_X3_29 : LkV RX3 29 RX0 yX0_copyFrom cX0_copyFrom 2 none 1 := ⟨⟨Or.inr ⟨"ShareStreams", by decide +kernel⟩, gW_t (List.mem_of_getElem? (i := 2) (by decide +kernel)) (by decide +kernel), gW_t (List.mem_of_getElem? (i := 169) (by decide +kernel)) (by decide +kernel), by decide +kernel, by decide +kernel, by decide +kernel⟩, gW_t (List.mem_of_getElem? (i := 168) (by decide +kernel)) (by decide +kernel), gW_of (List.mem_append_left _ (by decide +kernel)) (by decide +kernel)⟩
theorem M_X3_33 : LkS RX3 33 yJ9_floorMod_7cf53 cJ9_floorMod_7cf53 3 (some .int) 2 := ⟨⟨Or.inl (gW_t (List.mem_of_getElem? (i := 163) (by decide +kernel)) (by decide +kernel)), gW_t (List.mem_of_getElem? (i := 8) (by decide +kernel)) (by decide +kernel), gW_t (List.mem_of_getElem? (i := 165) (by decide +kernel)) (by decide +kernel), by decide +kernel, by decide +kernel, by decide +kernel⟩, gW_t (List.mem_of_getElem? (i := 164) (by decide +kernel)) (by decide +kernel)⟩
theorem L_X4_11 : FLk RX4 11 "ShareStreams$Streams" "rows" "[[J" := Or.inl (gW_t (List.mem_of_getElem? (i := 109) (by decide +kernel)) (by decide +kernel))
theorem M_X4_16 : LkV RX4 16 RX4 yX4_fillRow cX4_fillRow 6 none 3 := ⟨⟨Or.inl (gW_t (List.mem_of_getElem? (i := 408) (by decide +kernel)) (by decide +kernel)), gW_t (List.mem_of_getElem? (i := 6) (by decide +kernel)) (by decide +kernel), gW_t (List.mem_of_getElem? (i := 411) (by decide +kernel)) (by decide +kernel), by decide +kernel, by decide +kernel, by decide +kernel⟩, gW_t (List.mem_of_getElem? (i := 410) (by decide +kernel)) (by decide +kernel), gW_of (List.mem_append_left _ (by decide +kernel)) (by decide +kernel)⟩
theorem M_X4_20 : LkV RX4 20 RX0 yX0_kindOf cX0_kindOf 2 (some .int) 1 := ⟨⟨Or.inr ⟨"ShareStreams", by decide +kernel⟩, gW_t (List.mem_of_getElem? (i := 2) (by decide +kernel)) (by decide +kernel), gW_t (List.mem_of_getElem? (i := 177) (by decide +kernel)) (by decide +kernel), by decide +kernel, by decide +kernel, by decide +kernel⟩, gW_t (List.mem_of_getElem? (i := 176) (by decide +kernel)) (by decide +kernel), gW_of (List.mem_append_left _ (by decide +kernel)) (by decide +kernel)⟩
theorem M_X4_26 : LkV RX4 26 RX0 yX0_numberOf cX0_numberOf 3 (some .int) 2 := ⟨⟨Or.inr ⟨"ShareStreams", by decide +kernel⟩, gW_t (List.mem_of_getElem? (i := 2) (by decide +kernel)) (by decide +kernel), gW_t (List.mem_of_getElem? (i := 184) (by decide +kernel)) (by decide +kernel), by decide +kernel, by decide +kernel, by decide +kernel⟩, gW_t (List.mem_of_getElem? (i := 183) (by decide +kernel)) (by decide +kernel), gW_of (List.mem_append_left _ (by decide +kernel)) (by decide +kernel)⟩
theorem M_X4_30 : LkV RX4 30 RX4 yX4_fillSource cX4_fillSource 10 none 4 := ⟨⟨Or.inl (gW_t (List.mem_of_getElem? (i := 414) (by decide +kernel)) (by decide +kernel)), gW_t (List.mem_of_getElem? (i := 6) (by decide +kernel)) (by decide +kernel), gW_t (List.mem_of_getElem? (i := 417) (by decide +kernel)) (by decide +kernel), by decide +kernel, by decide +kernel, by decide +kernel⟩, gW_t (List.mem_of_getElem? (i := 416) (by decide +kernel)) (by decide +kernel), gW_of (List.mem_append_left _ (by decide +kernel)) (by decide +kernel)⟩
theorem M_X4_34 : LkV RX4 34 RX4 yX4_madeWord cX4_madeWord 10 (some .long) 3 := ⟨⟨Or.inl (gW_t (List.mem_of_getElem? (i := 425) (by decide +kernel)) (by decide +kernel)), gW_t (List.mem_of_getElem? (i := 6) (by decide +kernel)) (by decide +kernel), gW_t (List.mem_of_getElem? (i := 428) (by decide +kernel)) (by decide +kernel), by decide +kernel, by decide +kernel, by decide +kernel⟩, gW_t (List.mem_of_getElem? (i := 427) (by decide +kernel)) (by decide +kernel), gW_of (List.mem_append_left _ (by decide +kernel)) (by decide +kernel)⟩
theorem M_X4_38 : LkV RX4 38 RX4 yX4_setWord cX4_setWord 6 none 3 := ⟨⟨Or.inl (gW_t (List.mem_of_getElem? (i := 421) (by decide +kernel)) (by decide +kernel)), gW_t (List.mem_of_getElem? (i := 6) (by decide +kernel)) (by decide +kernel), gW_t (List.mem_of_getElem? (i := 424) (by decide +kernel)) (by decide +kernel), by decide +kernel, by decide +kernel, by decide +kernel⟩, gW_t (List.mem_of_getElem? (i := 423) (by decide +kernel)) (by decide +kernel), gW_of (List.mem_append_left _ (by decide +kernel)) (by decide +kernel)⟩
theorem M_X4_42 : LkS RX4 42 yX4_nextRegister cX4_nextRegister 2 (some .int) 1 := ⟨⟨Or.inl (gW_t (List.mem_of_getElem? (i := 418) (by decide +kernel)) (by decide +kernel)), gW_t (List.mem_of_getElem? (i := 6) (by decide +kernel)) (by decide +kernel), gW_t (List.mem_of_getElem? (i := 420) (by decide +kernel)) (by decide +kernel), by decide +kernel, by decide +kernel, by decide +kernel⟩, gW_t (List.mem_of_getElem? (i := 419) (by decide +kernel)) (by decide +kernel)⟩
theorem M_X4_45 : LkV RX4 45 RX4 yX4_wordAt cX4_wordAt 4 (some .long) 2 := ⟨⟨Or.inl (gW_t (List.mem_of_getElem? (i := 429) (by decide +kernel)) (by decide +kernel)), gW_t (List.mem_of_getElem? (i := 6) (by decide +kernel)) (by decide +kernel), gW_t (List.mem_of_getElem? (i := 432) (by decide +kernel)) (by decide +kernel), by decide +kernel, by decide +kernel, by decide +kernel⟩, gW_t (List.mem_of_getElem? (i := 431) (by decide +kernel)) (by decide +kernel), gW_of (List.mem_append_left _ (by decide +kernel)) (by decide +kernel)⟩
theorem K_X4_49 : Cond.constantLong RX4 49 (-1) ∈ gW := gW_t (List.mem_of_getElem? (i := 433) (by decide +kernel)) (by decide +kernel)
theorem M_X4_51 : LkV RX4 51 RX4 yX4_onesInBoth cX4_onesInBoth 8 (some .int) 3 := ⟨⟨Or.inl (gW_t (List.mem_of_getElem? (i := 438) (by decide +kernel)) (by decide +kernel)), gW_t (List.mem_of_getElem? (i := 6) (by decide +kernel)) (by decide +kernel), gW_t (List.mem_of_getElem? (i := 441) (by decide +kernel)) (by decide +kernel), by decide +kernel, by decide +kernel, by decide +kernel⟩, gW_t (List.mem_of_getElem? (i := 440) (by decide +kernel)) (by decide +kernel), gW_of (List.mem_append_left _ (by decide +kernel)) (by decide +kernel)⟩
theorem M_X4_55 : LkS RX4 55 yJ13_bitCount_95d88 cJ13_bitCount_95d88 2 (some .int) 1 := ⟨⟨Or.inl (gW_t (List.mem_of_getElem? (i := 442) (by decide +kernel)) (by decide +kernel)), gW_t (List.mem_of_getElem? (i := 13) (by decide +kernel)) (by decide +kernel), gW_t (List.mem_of_getElem? (i := 444) (by decide +kernel)) (by decide +kernel), by decide +kernel, by decide +kernel, by decide +kernel⟩, gW_t (List.mem_of_getElem? (i := 443) (by decide +kernel)) (by decide +kernel)⟩
theorem L_X5_10 : FLk RX5 10 "ShareStreams" "bench" "LShareStreams$Bench;" := Or.inl (gW_t (List.mem_of_getElem? (i := 114) (by decide +kernel)) (by decide +kernel))
theorem L_X5_16 : FLk RX5 16 "ShareStreams" "snapshot" "LShareStreams$Bench;" := Or.inl (gW_t (List.mem_of_getElem? (i := 115) (by decide +kernel)) (by decide +kernel))
theorem L_X5_19 : FLk RX5 19 "ShareStreams" "hasSnapshot" "Z" := Or.inl (gW_t (List.mem_of_getElem? (i := 116) (by decide +kernel)) (by decide +kernel))
theorem L_X5_23 : FLk RX5 23 "ShareStreams" "spare" "LShareStreams$Bench;" := Or.inl (gW_t (List.mem_of_getElem? (i := 117) (by decide +kernel)) (by decide +kernel))
theorem L_X5_29 : FLk RX5 29 "ShareStreams" "history" "LShareStreams$History;" := Or.inl (gW_t (List.mem_of_getElem? (i := 118) (by decide +kernel)) (by decide +kernel))
theorem L_X5_36 : FLk RX5 36 "ShareStreams" "text" "LShareStreams$CircuitText;" := Or.inl (gW_t (List.mem_of_getElem? (i := 119) (by decide +kernel)) (by decide +kernel))
theorem L_X5_43 : FLk RX5 43 "ShareStreams" "figures" "LShareStreams$Figures;" := Or.inl (gW_t (List.mem_of_getElem? (i := 120) (by decide +kernel)) (by decide +kernel))
theorem L_X5_50 : FLk RX5 50 "ShareStreams" "streams" "LShareStreams$Streams;" := Or.inl (gW_t (List.mem_of_getElem? (i := 121) (by decide +kernel)) (by decide +kernel))
theorem M_X5_54 : LkS RX5 54 yX5_isShareAndSeed cX5_isShareAndSeed 2 (some .boolean) 2 := ⟨⟨Or.inl (gW_t (List.mem_of_getElem? (i := 143) (by decide +kernel)) (by decide +kernel)), gW_t (List.mem_of_getElem? (i := 1) (by decide +kernel)) (by decide +kernel), gW_t (List.mem_of_getElem? (i := 145) (by decide +kernel)) (by decide +kernel), by decide +kernel, by decide +kernel, by decide +kernel⟩, gW_t (List.mem_of_getElem? (i := 144) (by decide +kernel)) (by decide +kernel)⟩
theorem K_X5_58 : Cond.constant RX5 58 (-100000002) ∈ gW := gW_t (List.mem_of_getElem? (i := 149) (by decide +kernel)) (by decide +kernel)
theorem M_X5_59 : LkV RX5 59 RX5 yX5_addLine cX5_addLine 5 (some .int) 4 := ⟨⟨Or.inl (gW_t (List.mem_of_getElem? (i := 150) (by decide +kernel)) (by decide +kernel)), gW_t (List.mem_of_getElem? (i := 1) (by decide +kernel)) (by decide +kernel), gW_t (List.mem_of_getElem? (i := 153) (by decide +kernel)) (by decide +kernel), by decide +kernel, by decide +kernel, by decide +kernel⟩, gW_t (List.mem_of_getElem? (i := 152) (by decide +kernel)) (by decide +kernel), gW_of (List.mem_append_left _ (by decide +kernel)) (by decide +kernel)⟩
theorem M_X5_63 : LkV RX5 63 RX0 yX0_has cX0_has 2 (some .boolean) 1 := ⟨⟨Or.inr ⟨"ShareStreams", by decide +kernel⟩, gW_t (List.mem_of_getElem? (i := 2) (by decide +kernel)) (by decide +kernel), gW_t (List.mem_of_getElem? (i := 204) (by decide +kernel)) (by decide +kernel), by decide +kernel, by decide +kernel, by decide +kernel⟩, gW_t (List.mem_of_getElem? (i := 203) (by decide +kernel)) (by decide +kernel), gW_of (List.mem_append_left _ (by decide +kernel)) (by decide +kernel)⟩
theorem K_X5_67 : Cond.constant RX5 67 (-100000001) ∈ gW := gW_t (List.mem_of_getElem? (i := 205) (by decide +kernel)) (by decide +kernel)
theorem M_X5_68 : LkS RX5 68 yX5_isWithin cX5_isWithin 3 (some .boolean) 3 := ⟨⟨Or.inl (gW_t (List.mem_of_getElem? (i := 146) (by decide +kernel)) (by decide +kernel)), gW_t (List.mem_of_getElem? (i := 1) (by decide +kernel)) (by decide +kernel), gW_t (List.mem_of_getElem? (i := 148) (by decide +kernel)) (by decide +kernel), by decide +kernel, by decide +kernel, by decide +kernel⟩, gW_t (List.mem_of_getElem? (i := 147) (by decide +kernel)) (by decide +kernel)⟩
theorem M_X5_72 : LkV RX5 72 RX0 yX0_kindOf cX0_kindOf 2 (some .int) 1 := ⟨⟨Or.inr ⟨"ShareStreams", by decide +kernel⟩, gW_t (List.mem_of_getElem? (i := 2) (by decide +kernel)) (by decide +kernel), gW_t (List.mem_of_getElem? (i := 177) (by decide +kernel)) (by decide +kernel), by decide +kernel, by decide +kernel, by decide +kernel⟩, gW_t (List.mem_of_getElem? (i := 176) (by decide +kernel)) (by decide +kernel), gW_of (List.mem_append_left _ (by decide +kernel)) (by decide +kernel)⟩
theorem K_X5_76 : Cond.constant RX5 76 (-100000004) ∈ gW := gW_t (List.mem_of_getElem? (i := 223) (by decide +kernel)) (by decide +kernel)
theorem M_X5_77 : LkV RX5 77 RX0 yX0_numberOf cX0_numberOf 3 (some .int) 2 := ⟨⟨Or.inr ⟨"ShareStreams", by decide +kernel⟩, gW_t (List.mem_of_getElem? (i := 2) (by decide +kernel)) (by decide +kernel), gW_t (List.mem_of_getElem? (i := 184) (by decide +kernel)) (by decide +kernel), by decide +kernel, by decide +kernel, by decide +kernel⟩, gW_t (List.mem_of_getElem? (i := 183) (by decide +kernel)) (by decide +kernel), gW_of (List.mem_append_left _ (by decide +kernel)) (by decide +kernel)⟩
theorem K_X5_81 : Cond.constant RX5 81 (-100000005) ∈ gW := gW_t (List.mem_of_getElem? (i := 225) (by decide +kernel)) (by decide +kernel)
theorem M_X5_82 : LkV RX5 82 RX3 yX3_push cX3_push 3 none 1 := ⟨⟨Or.inr ⟨"ShareStreams", by decide +kernel⟩, gW_t (List.mem_of_getElem? (i := 3) (by decide +kernel)) (by decide +kernel), gW_t (List.mem_of_getElem? (i := 158) (by decide +kernel)) (by decide +kernel), by decide +kernel, by decide +kernel, by decide +kernel⟩, gW_t (List.mem_of_getElem? (i := 157) (by decide +kernel)) (by decide +kernel), gW_of (List.mem_append_left _ (by decide +kernel)) (by decide +kernel)⟩
theorem M_X5_86 : LkV RX5 86 RX0 yX0_setSource cX0_setSource 4 none 3 := ⟨⟨Or.inr ⟨"ShareStreams", by decide +kernel⟩, gW_t (List.mem_of_getElem? (i := 2) (by decide +kernel)) (by decide +kernel), gW_t (List.mem_of_getElem? (i := 229) (by decide +kernel)) (by decide +kernel), by decide +kernel, by decide +kernel, by decide +kernel⟩, gW_t (List.mem_of_getElem? (i := 228) (by decide +kernel)) (by decide +kernel), gW_of (List.mem_append_left _ (by decide +kernel)) (by decide +kernel)⟩
theorem L_X5_90 : FLk RX5 90 "ShareStreams$Bench" "size" "I" := Or.inr ⟨"ShareStreams", by decide +kernel⟩
theorem M_X5_94 : LkV RX5 94 RX0 yX0_dropLast cX0_dropLast 1 none 0 := ⟨⟨Or.inr ⟨"ShareStreams", by decide +kernel⟩, gW_t (List.mem_of_getElem? (i := 2) (by decide +kernel)) (by decide +kernel), gW_t (List.mem_of_getElem? (i := 237) (by decide +kernel)) (by decide +kernel), by decide +kernel, by decide +kernel, by decide +kernel⟩, gW_t (List.mem_of_getElem? (i := 236) (by decide +kernel)) (by decide +kernel), gW_of (List.mem_append_left _ (by decide +kernel)) (by decide +kernel)⟩
theorem L_X5_97 : FLk RX5 97 "ShareStreams$Bench" "length" "I" := Or.inr ⟨"ShareStreams", by decide +kernel⟩
theorem M_X5_100 : LkV RX5 100 RX1 yX1_readInto cX1_readInto 3 (some .int) 1 := ⟨⟨Or.inr ⟨"ShareStreams", by decide +kernel⟩, gW_t (List.mem_of_getElem? (i := 4) (by decide +kernel)) (by decide +kernel), gW_t (List.mem_of_getElem? (i := 249) (by decide +kernel)) (by decide +kernel), by decide +kernel, by decide +kernel, by decide +kernel⟩, gW_t (List.mem_of_getElem? (i := 248) (by decide +kernel)) (by decide +kernel), gW_of (List.mem_append_left _ (by decide +kernel)) (by decide +kernel)⟩
theorem K_X5_104 : Cond.constant RX5 104 (-100000100) ∈ gW := gW_t (List.mem_of_getElem? (i := 359) (by decide +kernel)) (by decide +kernel)
theorem M_X5_105 : LkS RX5 105 yX5_isMadeOfLinesAhead cX5_isMadeOfLinesAhead 5 (some .boolean) 2 := ⟨⟨Or.inl (gW_t (List.mem_of_getElem? (i := 360) (by decide +kernel)) (by decide +kernel)), gW_t (List.mem_of_getElem? (i := 1) (by decide +kernel)) (by decide +kernel), gW_t (List.mem_of_getElem? (i := 362) (by decide +kernel)) (by decide +kernel), by decide +kernel, by decide +kernel, by decide +kernel⟩, gW_t (List.mem_of_getElem? (i := 361) (by decide +kernel)) (by decide +kernel)⟩
theorem K_X5_109 : Cond.constant RX5 109 (-100000003) ∈ gW := gW_t (List.mem_of_getElem? (i := 154) (by decide +kernel)) (by decide +kernel)
theorem M_X5_110 : LkV RX5 110 RX0 yX0_addAll cX0_addAll 3 none 1 := ⟨⟨Or.inr ⟨"ShareStreams", by decide +kernel⟩, gW_t (List.mem_of_getElem? (i := 2) (by decide +kernel)) (by decide +kernel), gW_t (List.mem_of_getElem? (i := 173) (by decide +kernel)) (by decide +kernel), by decide +kernel, by decide +kernel, by decide +kernel⟩, gW_t (List.mem_of_getElem? (i := 172) (by decide +kernel)) (by decide +kernel), gW_of (List.mem_append_left _ (by decide +kernel)) (by decide +kernel)⟩
theorem L_X5_113 : FLk RX5 113 "ShareStreams$CircuitText" "size" "I" := Or.inr ⟨"ShareStreams", by decide +kernel⟩
theorem M_X5_114 : LkV RX5 114 RX1 yX1_append cX1_append 2 none 1 := ⟨⟨Or.inr ⟨"ShareStreams", by decide +kernel⟩, gW_t (List.mem_of_getElem? (i := 4) (by decide +kernel)) (by decide +kernel), gW_t (List.mem_of_getElem? (i := 373) (by decide +kernel)) (by decide +kernel), by decide +kernel, by decide +kernel, by decide +kernel⟩, gW_t (List.mem_of_getElem? (i := 372) (by decide +kernel)) (by decide +kernel), gW_of (List.mem_append_left _ (by decide +kernel)) (by decide +kernel)⟩
theorem L_X5_118 : FLk RX5 118 "ShareStreams$History" "size" "I" := Or.inr ⟨"ShareStreams", by decide +kernel⟩
theorem M_X5_119 : LkV RX5 119 RX3 yX3_popInto cX3_popInto 3 none 1 := ⟨⟨Or.inr ⟨"ShareStreams", by decide +kernel⟩, gW_t (List.mem_of_getElem? (i := 3) (by decide +kernel)) (by decide +kernel), gW_t (List.mem_of_getElem? (i := 385) (by decide +kernel)) (by decide +kernel), by decide +kernel, by decide +kernel, by decide +kernel⟩, gW_t (List.mem_of_getElem? (i := 384) (by decide +kernel)) (by decide +kernel), gW_of (List.mem_append_left _ (by decide +kernel)) (by decide +kernel)⟩
theorem M_X5_122 : LkV RX5 122 RX0 yX0_copyFrom cX0_copyFrom 2 none 1 := ⟨⟨Or.inr ⟨"ShareStreams", by decide +kernel⟩, gW_t (List.mem_of_getElem? (i := 2) (by decide +kernel)) (by decide +kernel), gW_t (List.mem_of_getElem? (i := 169) (by decide +kernel)) (by decide +kernel), by decide +kernel, by decide +kernel, by decide +kernel⟩, gW_t (List.mem_of_getElem? (i := 168) (by decide +kernel)) (by decide +kernel), gW_of (List.mem_append_left _ (by decide +kernel)) (by decide +kernel)⟩
theorem M_X5_125 : LkS RX5 125 yX5_numbersOfKind cX5_numbersOfKind 1 (some .int) 1 := ⟨⟨Or.inl (gW_t (List.mem_of_getElem? (i := 399) (by decide +kernel)) (by decide +kernel)), gW_t (List.mem_of_getElem? (i := 1) (by decide +kernel)) (by decide +kernel), gW_t (List.mem_of_getElem? (i := 335) (by decide +kernel)) (by decide +kernel), by decide +kernel, by decide +kernel, by decide +kernel⟩, gW_t (List.mem_of_getElem? (i := 334) (by decide +kernel)) (by decide +kernel)⟩
theorem M_X5_128 : LkV RX5 128 RX5 yX5_onesOver cX5_onesOver 3 (some .int) 2 := ⟨⟨Or.inl (gW_t (List.mem_of_getElem? (i := 400) (by decide +kernel)) (by decide +kernel)), gW_t (List.mem_of_getElem? (i := 1) (by decide +kernel)) (by decide +kernel), gW_t (List.mem_of_getElem? (i := 403) (by decide +kernel)) (by decide +kernel), by decide +kernel, by decide +kernel, by decide +kernel⟩, gW_t (List.mem_of_getElem? (i := 402) (by decide +kernel)) (by decide +kernel), gW_of (List.mem_append_left _ (by decide +kernel)) (by decide +kernel)⟩
theorem M_X5_131 : LkS RX5 131 yX5_shareOf cX5_shareOf 2 (some .int) 2 := ⟨⟨Or.inl (gW_t (List.mem_of_getElem? (i := 448) (by decide +kernel)) (by decide +kernel)), gW_t (List.mem_of_getElem? (i := 1) (by decide +kernel)) (by decide +kernel), gW_t (List.mem_of_getElem? (i := 450) (by decide +kernel)) (by decide +kernel), by decide +kernel, by decide +kernel, by decide +kernel⟩, gW_t (List.mem_of_getElem? (i := 449) (by decide +kernel)) (by decide +kernel)⟩
theorem M_X5_134 : LkV RX5 134 RX2 yX2_workOut cX2_workOut 3 none 1 := ⟨⟨Or.inr ⟨"ShareStreams", by decide +kernel⟩, gW_t (List.mem_of_getElem? (i := 5) (by decide +kernel)) (by decide +kernel), gW_t (List.mem_of_getElem? (i := 455) (by decide +kernel)) (by decide +kernel), by decide +kernel, by decide +kernel, by decide +kernel⟩, gW_t (List.mem_of_getElem? (i := 454) (by decide +kernel)) (by decide +kernel), gW_of (List.mem_append_left _ (by decide +kernel)) (by decide +kernel)⟩
theorem M_X5_137 : LkV RX5 137 RX2 yX2_exactShareOf cX2_exactShareOf 2 (some .int) 1 := ⟨⟨Or.inr ⟨"ShareStreams", by decide +kernel⟩, gW_t (List.mem_of_getElem? (i := 5) (by decide +kernel)) (by decide +kernel), gW_t (List.mem_of_getElem? (i := 464) (by decide +kernel)) (by decide +kernel), by decide +kernel, by decide +kernel, by decide +kernel⟩, gW_t (List.mem_of_getElem? (i := 463) (by decide +kernel)) (by decide +kernel), gW_of (List.mem_append_left _ (by decide +kernel)) (by decide +kernel)⟩
theorem M_X5_140 : LkV RX5 140 RX5 yX5_errorOver cX5_errorOver 3 (some .int) 2 := ⟨⟨Or.inl (gW_t (List.mem_of_getElem? (i := 493) (by decide +kernel)) (by decide +kernel)), gW_t (List.mem_of_getElem? (i := 1) (by decide +kernel)) (by decide +kernel), gW_t (List.mem_of_getElem? (i := 496) (by decide +kernel)) (by decide +kernel), by decide +kernel, by decide +kernel, by decide +kernel⟩, gW_t (List.mem_of_getElem? (i := 495) (by decide +kernel)) (by decide +kernel), gW_of (List.mem_append_left _ (by decide +kernel)) (by decide +kernel)⟩
theorem M_X5_143 : LkV RX5 143 RX2 yX2_depthOf cX2_depthOf 2 (some .int) 1 := ⟨⟨Or.inr ⟨"ShareStreams", by decide +kernel⟩, gW_t (List.mem_of_getElem? (i := 5) (by decide +kernel)) (by decide +kernel), gW_t (List.mem_of_getElem? (i := 484) (by decide +kernel)) (by decide +kernel), by decide +kernel, by decide +kernel, by decide +kernel⟩, gW_t (List.mem_of_getElem? (i := 483) (by decide +kernel)) (by decide +kernel), gW_of (List.mem_append_left _ (by decide +kernel)) (by decide +kernel)⟩
theorem M_X5_146 : LkV RX5 146 RX2 yX2_sourcesOf cX2_sourcesOf 2 (some .int) 1 := ⟨⟨Or.inr ⟨"ShareStreams", by decide +kernel⟩, gW_t (List.mem_of_getElem? (i := 5) (by decide +kernel)) (by decide +kernel), gW_t (List.mem_of_getElem? (i := 512) (by decide +kernel)) (by decide +kernel), by decide +kernel, by decide +kernel, by decide +kernel⟩, gW_t (List.mem_of_getElem? (i := 511) (by decide +kernel)) (by decide +kernel), gW_of (List.mem_append_left _ (by decide +kernel)) (by decide +kernel)⟩
theorem M_X5_149 : LkV RX5 149 RX4 yX4_fill cX4_fill 5 none 3 := ⟨⟨Or.inr ⟨"ShareStreams", by decide +kernel⟩, gW_t (List.mem_of_getElem? (i := 6) (by decide +kernel)) (by decide +kernel), gW_t (List.mem_of_getElem? (i := 407) (by decide +kernel)) (by decide +kernel), by decide +kernel, by decide +kernel, by decide +kernel⟩, gW_t (List.mem_of_getElem? (i := 406) (by decide +kernel)) (by decide +kernel), gW_of (List.mem_append_left _ (by decide +kernel)) (by decide +kernel)⟩
theorem M_X5_153 : LkV RX5 153 RX4 yX4_bitAt cX4_bitAt 3 (some .int) 2 := ⟨⟨Or.inr ⟨"ShareStreams", by decide +kernel⟩, gW_t (List.mem_of_getElem? (i := 6) (by decide +kernel)) (by decide +kernel), gW_t (List.mem_of_getElem? (i := 526) (by decide +kernel)) (by decide +kernel), by decide +kernel, by decide +kernel, by decide +kernel⟩, gW_t (List.mem_of_getElem? (i := 525) (by decide +kernel)) (by decide +kernel), gW_of (List.mem_append_left _ (by decide +kernel)) (by decide +kernel)⟩
theorem M_X5_156 : Cond.methodLink RX5 156 Lib.Math.max.name ∈ gW := gW_t (List.mem_of_getElem? (i := 531) (by decide +kernel)) (by decide +kernel)
theorem M_X5_161 : LkV RX5 161 RX4 yX4_onesInBoth cX4_onesInBoth 8 (some .int) 3 := ⟨⟨Or.inr ⟨"ShareStreams", by decide +kernel⟩, gW_t (List.mem_of_getElem? (i := 6) (by decide +kernel)) (by decide +kernel), gW_t (List.mem_of_getElem? (i := 441) (by decide +kernel)) (by decide +kernel), by decide +kernel, by decide +kernel, by decide +kernel⟩, gW_t (List.mem_of_getElem? (i := 440) (by decide +kernel)) (by decide +kernel), gW_of (List.mem_append_left _ (by decide +kernel)) (by decide +kernel)⟩
theorem M_X5_165 : LkV RX5 165 RX4 yX4_onesIn cX4_onesIn 3 (some .int) 2 := ⟨⟨Or.inr ⟨"ShareStreams", by decide +kernel⟩, gW_t (List.mem_of_getElem? (i := 6) (by decide +kernel)) (by decide +kernel), gW_t (List.mem_of_getElem? (i := 437) (by decide +kernel)) (by decide +kernel), by decide +kernel, by decide +kernel, by decide +kernel⟩, gW_t (List.mem_of_getElem? (i := 436) (by decide +kernel)) (by decide +kernel), gW_of (List.mem_append_left _ (by decide +kernel)) (by decide +kernel)⟩
theorem K_X5_168 : Cond.constantLong RX5 168 (65536) ∈ gW := gW_t (List.mem_of_getElem? (i := 533) (by decide +kernel)) (by decide +kernel)
theorem K_X5_170 : Cond.constant RX5 170 (65536) ∈ gW := gW_t (List.mem_of_getElem? (i := 451) (by decide +kernel)) (by decide +kernel)
theorem M_X5_171 : LkV RX5 171 RX5 yX5_lastLengthBeyond cX5_lastLengthBeyond 6 (some .int) 2 := ⟨⟨Or.inl (gW_t (List.mem_of_getElem? (i := 542) (by decide +kernel)) (by decide +kernel)), gW_t (List.mem_of_getElem? (i := 1) (by decide +kernel)) (by decide +kernel), gW_t (List.mem_of_getElem? (i := 545) (by decide +kernel)) (by decide +kernel), by decide +kernel, by decide +kernel, by decide +kernel⟩, gW_t (List.mem_of_getElem? (i := 544) (by decide +kernel)) (by decide +kernel), gW_of (List.mem_append_left _ (by decide +kernel)) (by decide +kernel)⟩
theorem M_X5_174 : LkV RX5 174 RX5 yX5_errorWithSeed cX5_errorWithSeed 4 (some .int) 3 := ⟨⟨Or.inl (gW_t (List.mem_of_getElem? (i := 550) (by decide +kernel)) (by decide +kernel)), gW_t (List.mem_of_getElem? (i := 1) (by decide +kernel)) (by decide +kernel), gW_t (List.mem_of_getElem? (i := 553) (by decide +kernel)) (by decide +kernel), by decide +kernel, by decide +kernel, by decide +kernel⟩, gW_t (List.mem_of_getElem? (i := 552) (by decide +kernel)) (by decide +kernel), gW_of (List.mem_append_left _ (by decide +kernel)) (by decide +kernel)⟩
theorem M_X5_177 : LkV RX5 177 RX0 yX0_sources cX0_sources 3 (some .int) 0 := ⟨⟨Or.inr ⟨"ShareStreams", by decide +kernel⟩, gW_t (List.mem_of_getElem? (i := 2) (by decide +kernel)) (by decide +kernel), gW_t (List.mem_of_getElem? (i := 569) (by decide +kernel)) (by decide +kernel), by decide +kernel, by decide +kernel, by decide +kernel⟩, gW_t (List.mem_of_getElem? (i := 568) (by decide +kernel)) (by decide +kernel), gW_of (List.mem_append_left _ (by decide +kernel)) (by decide +kernel)⟩
theorem M_X5_181 : LkV RX5 181 RX5 yX5_sumOfErrors cX5_sumOfErrors 3 (some .int) 0 := ⟨⟨Or.inl (gW_t (List.mem_of_getElem? (i := 570) (by decide +kernel)) (by decide +kernel)), gW_t (List.mem_of_getElem? (i := 1) (by decide +kernel)) (by decide +kernel), gW_t (List.mem_of_getElem? (i := 573) (by decide +kernel)) (by decide +kernel), by decide +kernel, by decide +kernel, by decide +kernel⟩, gW_t (List.mem_of_getElem? (i := 572) (by decide +kernel)) (by decide +kernel), gW_of (List.mem_append_left _ (by decide +kernel)) (by decide +kernel)⟩
theorem M_X5_184 : LkV RX5 184 RX5 yX5_lineWithGreatestError cX5_lineWithGreatestError 5 (some .int) 0 := ⟨⟨Or.inl (gW_t (List.mem_of_getElem? (i := 578) (by decide +kernel)) (by decide +kernel)), gW_t (List.mem_of_getElem? (i := 1) (by decide +kernel)) (by decide +kernel), gW_t (List.mem_of_getElem? (i := 581) (by decide +kernel)) (by decide +kernel), by decide +kernel, by decide +kernel, by decide +kernel⟩, gW_t (List.mem_of_getElem? (i := 580) (by decide +kernel)) (by decide +kernel), gW_of (List.mem_append_left _ (by decide +kernel)) (by decide +kernel)⟩
theorem M_X5_187 : LkV RX5 187 RX2 yX2_greatestDepth cX2_greatestDepth 4 (some .int) 1 := ⟨⟨Or.inr ⟨"ShareStreams", by decide +kernel⟩, gW_t (List.mem_of_getElem? (i := 5) (by decide +kernel)) (by decide +kernel), gW_t (List.mem_of_getElem? (i := 585) (by decide +kernel)) (by decide +kernel), by decide +kernel, by decide +kernel, by decide +kernel⟩, gW_t (List.mem_of_getElem? (i := 584) (by decide +kernel)) (by decide +kernel), gW_of (List.mem_append_left _ (by decide +kernel)) (by decide +kernel)⟩
theorem M_X5_190 : LkV RX5 190 RX0 yX0_add cX0_add 5 none 4 := ⟨⟨Or.inr ⟨"ShareStreams", by decide +kernel⟩, gW_t (List.mem_of_getElem? (i := 2) (by decide +kernel)) (by decide +kernel), gW_t (List.mem_of_getElem? (i := 188) (by decide +kernel)) (by decide +kernel), by decide +kernel, by decide +kernel, by decide +kernel⟩, gW_t (List.mem_of_getElem? (i := 187) (by decide +kernel)) (by decide +kernel), gW_of (List.mem_append_left _ (by decide +kernel)) (by decide +kernel)⟩
theorem M_X5_194 : LkV RX5 194 RX5 yX5_errorOfFilled cX5_errorOfFilled 3 (some .int) 2 := ⟨⟨Or.inl (gW_t (List.mem_of_getElem? (i := 497) (by decide +kernel)) (by decide +kernel)), gW_t (List.mem_of_getElem? (i := 1) (by decide +kernel)) (by decide +kernel), gW_t (List.mem_of_getElem? (i := 500) (by decide +kernel)) (by decide +kernel), by decide +kernel, by decide +kernel, by decide +kernel⟩, gW_t (List.mem_of_getElem? (i := 499) (by decide +kernel)) (by decide +kernel), gW_of (List.mem_append_left _ (by decide +kernel)) (by decide +kernel)⟩
theorem M_X5_197 : LkV RX5 197 RX5 yX5_errorOfCount cX5_errorOfCount 4 (some .int) 3 := ⟨⟨Or.inl (gW_t (List.mem_of_getElem? (i := 501) (by decide +kernel)) (by decide +kernel)), gW_t (List.mem_of_getElem? (i := 1) (by decide +kernel)) (by decide +kernel), gW_t (List.mem_of_getElem? (i := 504) (by decide +kernel)) (by decide +kernel), by decide +kernel, by decide +kernel, by decide +kernel⟩, gW_t (List.mem_of_getElem? (i := 503) (by decide +kernel)) (by decide +kernel), gW_of (List.mem_append_left _ (by decide +kernel)) (by decide +kernel)⟩
theorem M_X5_200 : Cond.methodLink RX5 200 Lib.Math.abs.name ∈ gW := gW_t (List.mem_of_getElem? (i := 505) (by decide +kernel)) (by decide +kernel)
theorem M_X5_203 : LkV RX5 203 RX4 yX4_refill cX4_refill 6 none 4 := ⟨⟨Or.inr ⟨"ShareStreams", by decide +kernel⟩, gW_t (List.mem_of_getElem? (i := 6) (by decide +kernel)) (by decide +kernel), gW_t (List.mem_of_getElem? (i := 557) (by decide +kernel)) (by decide +kernel), by decide +kernel, by decide +kernel, by decide +kernel⟩, gW_t (List.mem_of_getElem? (i := 556) (by decide +kernel)) (by decide +kernel), gW_of (List.mem_append_left _ (by decide +kernel)) (by decide +kernel)⟩
theorem M_X5_207 : LkV RX5 207 RX5 yX5_fillAll cX5_fillAll 1 none 0 := ⟨⟨Or.inl (gW_t (List.mem_of_getElem? (i := 574) (by decide +kernel)) (by decide +kernel)), gW_t (List.mem_of_getElem? (i := 1) (by decide +kernel)) (by decide +kernel), gW_t (List.mem_of_getElem? (i := 577) (by decide +kernel)) (by decide +kernel), by decide +kernel, by decide +kernel, by decide +kernel⟩, gW_t (List.mem_of_getElem? (i := 576) (by decide +kernel)) (by decide +kernel), gW_of (List.mem_append_left _ (by decide +kernel)) (by decide +kernel)⟩
theorem M_X5_210 : LkS RX5 210 yX5_linesOfKind cX5_linesOfKind 1 (some .int) 1 := ⟨⟨Or.inl (gW_t (List.mem_of_getElem? (i := 363) (by decide +kernel)) (by decide +kernel)), gW_t (List.mem_of_getElem? (i := 1) (by decide +kernel)) (by decide +kernel), gW_t (List.mem_of_getElem? (i := 347) (by decide +kernel)) (by decide +kernel), by decide +kernel, by decide +kernel, by decide +kernel⟩, gW_t (List.mem_of_getElem? (i := 346) (by decide +kernel)) (by decide +kernel)⟩
theorem L_X5_213 : Cond.fieldLink RX5 213 "ShareStreams" "NUMBERS_OF_KIND" "[I" ∈ gW := gW_t (List.mem_of_getElem? (i := 336) (by decide +kernel)) (by decide +kernel)
theorem M_X5_217 : LkS RX5 217 yX5_elementAt cX5_elementAt 2 (some .int) 2 := ⟨⟨Or.inl (gW_t (List.mem_of_getElem? (i := 338) (by decide +kernel)) (by decide +kernel)), gW_t (List.mem_of_getElem? (i := 1) (by decide +kernel)) (by decide +kernel), gW_t (List.mem_of_getElem? (i := 180) (by decide +kernel)) (by decide +kernel), by decide +kernel, by decide +kernel, by decide +kernel⟩, gW_t (List.mem_of_getElem? (i := 179) (by decide +kernel)) (by decide +kernel)⟩
theorem L_X5_221 : Cond.fieldLink RX5 221 "ShareStreams" "LINES_OF_KIND" "[I" ∈ gW := gW_t (List.mem_of_getElem? (i := 348) (by decide +kernel)) (by decide +kernel)
theorem L_X6_7 : FLk RX6 7 "ShareStreamsModel" "all" "[I" := Or.inl (gW_t (List.mem_of_getElem? (i := 599) (by decide +kernel)) (by decide +kernel))
theorem L_X6_13 : FLk RX6 13 "ShareStreamsModel" "kept" "[I" := Or.inl (gW_t (List.mem_of_getElem? (i := 600) (by decide +kernel)) (by decide +kernel))
theorem L_X6_16 : FLk RX6 16 "ShareStreamsModel" "history" "[I" := Or.inl (gW_t (List.mem_of_getElem? (i := 601) (by decide +kernel)) (by decide +kernel))
theorem L_X6_19 : FLk RX6 19 "ShareStreamsModel" "snapshot" "[I" := Or.inl (gW_t (List.mem_of_getElem? (i := 603) (by decide +kernel)) (by decide +kernel))
theorem L_X6_22 : FLk RX6 22 "ShareStreamsModel" "words" "[J" := Or.inl (gW_t (List.mem_of_getElem? (i := 605) (by decide +kernel)) (by decide +kernel))
theorem L_X6_26 : FLk RX6 26 "ShareStreamsModel" "bits" "[I" := Or.inl (gW_t (List.mem_of_getElem? (i := 606) (by decide +kernel)) (by decide +kernel))
theorem L_X6_29 : FLk RX6 29 "ShareStreamsModel" "register" "[I" := Or.inl (gW_t (List.mem_of_getElem? (i := 607) (by decide +kernel)) (by decide +kernel))
theorem L_X6_32 : FLk RX6 32 "ShareStreamsModel" "exact" "[I" := Or.inl (gW_t (List.mem_of_getElem? (i := 608) (by decide +kernel)) (by decide +kernel))
theorem L_X6_35 : FLk RX6 35 "ShareStreamsModel" "text" "[I" := Or.inl (gW_t (List.mem_of_getElem? (i := 609) (by decide +kernel)) (by decide +kernel))
theorem L_X6_38 : FLk RX6 38 "ShareStreamsModel" "read" "[I" := Or.inl (gW_t (List.mem_of_getElem? (i := 612) (by decide +kernel)) (by decide +kernel))
theorem L_X6_41 : FLk RX6 41 "ShareStreamsModel" "deep" "[I" := Or.inl (gW_t (List.mem_of_getElem? (i := 615) (by decide +kernel)) (by decide +kernel))
theorem L_X6_44 : FLk RX6 44 "ShareStreamsModel" "sources" "[I" := Or.inl (gW_t (List.mem_of_getElem? (i := 616) (by decide +kernel)) (by decide +kernel))
theorem K_X6_47 : Cond.constantLong RX6 47 (126922548994917) ∈ gW := gW_t (List.mem_of_getElem? (i := 592) (by decide +kernel)) (by decide +kernel)
theorem K_X6_49 : Cond.constantLong RX6 49 (6385252) ∈ gW := gW_t (List.mem_of_getElem? (i := 593) (by decide +kernel)) (by decide +kernel)
theorem K_X6_51 : Cond.constantLong RX6 51 (28530) ∈ gW := gW_t (List.mem_of_getElem? (i := 594) (by decide +kernel)) (by decide +kernel)
theorem K_X6_53 : Cond.constantLong RX6 53 (7892850) ∈ gW := gW_t (List.mem_of_getElem? (i := 595) (by decide +kernel)) (by decide +kernel)
theorem K_X6_55 : Cond.constantLong RX6 55 (7173496) ∈ gW := gW_t (List.mem_of_getElem? (i := 596) (by decide +kernel)) (by decide +kernel)
theorem K_X6_57 : Cond.constantLong RX6 57 (7237492) ∈ gW := gW_t (List.mem_of_getElem? (i := 597) (by decide +kernel)) (by decide +kernel)
theorem K_X6_59 : Cond.constantLong RX6 59 (431198331257) ∈ gW := gW_t (List.mem_of_getElem? (i := 598) (by decide +kernel)) (by decide +kernel)
theorem L_X6_61 : FLk RX6 61 "ShareStreamsModel" "historyLong" "I" := Or.inl (gW_t (List.mem_of_getElem? (i := 602) (by decide +kernel)) (by decide +kernel))
theorem M_X6_65 : LkS RX6 65 yX6_in cX6_in 6 (some .boolean) 3 := ⟨⟨Or.inl (gW_t (List.mem_of_getElem? (i := 659) (by decide +kernel)) (by decide +kernel)), gW_t (List.mem_of_getElem? (i := 7) (by decide +kernel)) (by decide +kernel), gW_t (List.mem_of_getElem? (i := 661) (by decide +kernel)) (by decide +kernel), by decide +kernel, by decide +kernel, by decide +kernel⟩, gW_t (List.mem_of_getElem? (i := 660) (by decide +kernel)) (by decide +kernel)⟩
theorem K_X6_69 : Cond.constant RX6 69 (-100000003) ∈ gW := gW_t (List.mem_of_getElem? (i := 668) (by decide +kernel)) (by decide +kernel)
theorem M_X6_70 : LkV RX6 70 RX6 yX6_remember cX6_remember 2 none 0 := ⟨⟨Or.inl (gW_t (List.mem_of_getElem? (i := 669) (by decide +kernel)) (by decide +kernel)), gW_t (List.mem_of_getElem? (i := 7) (by decide +kernel)) (by decide +kernel), gW_t (List.mem_of_getElem? (i := 672) (by decide +kernel)) (by decide +kernel), by decide +kernel, by decide +kernel, by decide +kernel⟩, gW_t (List.mem_of_getElem? (i := 671) (by decide +kernel)) (by decide +kernel), gW_of (List.mem_append_left _ (by decide +kernel)) (by decide +kernel)⟩
theorem M_X6_73 : LkV RX6 73 RX6 yX6_puts cX6_puts 6 none 4 := ⟨⟨Or.inl (gW_t (List.mem_of_getElem? (i := 673) (by decide +kernel)) (by decide +kernel)), gW_t (List.mem_of_getElem? (i := 7) (by decide +kernel)) (by decide +kernel), gW_t (List.mem_of_getElem? (i := 676) (by decide +kernel)) (by decide +kernel), by decide +kernel, by decide +kernel, by decide +kernel⟩, gW_t (List.mem_of_getElem? (i := 675) (by decide +kernel)) (by decide +kernel), gW_of (List.mem_append_left _ (by decide +kernel)) (by decide +kernel)⟩
theorem M_X6_77 : LkV RX6 77 RX6 yX6_acted cX6_acted 3 (some .int) 1 := ⟨⟨Or.inl (gW_t (List.mem_of_getElem? (i := 677) (by decide +kernel)) (by decide +kernel)), gW_t (List.mem_of_getElem? (i := 7) (by decide +kernel)) (by decide +kernel), gW_t (List.mem_of_getElem? (i := 680) (by decide +kernel)) (by decide +kernel), by decide +kernel, by decide +kernel, by decide +kernel⟩, gW_t (List.mem_of_getElem? (i := 679) (by decide +kernel)) (by decide +kernel), gW_of (List.mem_append_left _ (by decide +kernel)) (by decide +kernel)⟩
theorem K_X6_81 : Cond.constantLong RX6 81 (256) ∈ gW := gW_t (List.mem_of_getElem? (i := 658) (by decide +kernel)) (by decide +kernel)
theorem K_X6_83 : Cond.constantLong RX6 83 (255) ∈ gW := gW_t (List.mem_of_getElem? (i := 662) (by decide +kernel)) (by decide +kernel)
theorem K_X6_85 : Cond.constant RX6 85 (-100000005) ∈ gW := gW_t (List.mem_of_getElem? (i := 663) (by decide +kernel)) (by decide +kernel)
theorem M_X6_86 : LkV RX6 86 RX6 yX6_adds cX6_adds 5 (some .int) 4 := ⟨⟨Or.inl (gW_t (List.mem_of_getElem? (i := 664) (by decide +kernel)) (by decide +kernel)), gW_t (List.mem_of_getElem? (i := 7) (by decide +kernel)) (by decide +kernel), gW_t (List.mem_of_getElem? (i := 667) (by decide +kernel)) (by decide +kernel), by decide +kernel, by decide +kernel, by decide +kernel⟩, gW_t (List.mem_of_getElem? (i := 666) (by decide +kernel)) (by decide +kernel), gW_of (List.mem_append_left _ (by decide +kernel)) (by decide +kernel)⟩
theorem K_X6_90 : Cond.constant RX6 90 (-100000002) ∈ gW := gW_t (List.mem_of_getElem? (i := 681) (by decide +kernel)) (by decide +kernel)
theorem M_X6_91 : LkV RX6 91 RX6 yX6_isLine cX6_isLine 2 (some .boolean) 1 := ⟨⟨Or.inl (gW_t (List.mem_of_getElem? (i := 686) (by decide +kernel)) (by decide +kernel)), gW_t (List.mem_of_getElem? (i := 7) (by decide +kernel)) (by decide +kernel), gW_t (List.mem_of_getElem? (i := 689) (by decide +kernel)) (by decide +kernel), by decide +kernel, by decide +kernel, by decide +kernel⟩, gW_t (List.mem_of_getElem? (i := 688) (by decide +kernel)) (by decide +kernel), gW_of (List.mem_append_left _ (by decide +kernel)) (by decide +kernel)⟩
theorem K_X6_95 : Cond.constant RX6 95 (-100000001) ∈ gW := gW_t (List.mem_of_getElem? (i := 690) (by decide +kernel)) (by decide +kernel)
theorem K_X6_96 : Cond.constantLong RX6 96 (3) ∈ gW := gW_t (List.mem_of_getElem? (i := 691) (by decide +kernel)) (by decide +kernel)
theorem K_X6_98 : Cond.constantLong RX6 98 (60) ∈ gW := gW_t (List.mem_of_getElem? (i := 704) (by decide +kernel)) (by decide +kernel)
theorem M_X6_100 : LkV RX6 100 RX6 yX6_of cX6_of 3 (some .int) 2 := ⟨⟨Or.inl (gW_t (List.mem_of_getElem? (i := 709) (by decide +kernel)) (by decide +kernel)), gW_t (List.mem_of_getElem? (i := 7) (by decide +kernel)) (by decide +kernel), gW_t (List.mem_of_getElem? (i := 712) (by decide +kernel)) (by decide +kernel), by decide +kernel, by decide +kernel, by decide +kernel⟩, gW_t (List.mem_of_getElem? (i := 711) (by decide +kernel)) (by decide +kernel), gW_of (List.mem_append_left _ (by decide +kernel)) (by decide +kernel)⟩
theorem K_X6_104 : Cond.constant RX6 104 (-100000004) ∈ gW := gW_t (List.mem_of_getElem? (i := 713) (by decide +kernel)) (by decide +kernel)
theorem K_X6_105 : Cond.constantLong RX6 105 (1000) ∈ gW := gW_t (List.mem_of_getElem? (i := 722) (by decide +kernel)) (by decide +kernel)
theorem M_X6_107 : LkV RX6 107 RX6 yX6_bitAt cX6_bitAt 3 (some .int) 2 := ⟨⟨Or.inl (gW_t (List.mem_of_getElem? (i := 803) (by decide +kernel)) (by decide +kernel)), gW_t (List.mem_of_getElem? (i := 7) (by decide +kernel)) (by decide +kernel), gW_t (List.mem_of_getElem? (i := 806) (by decide +kernel)) (by decide +kernel), by decide +kernel, by decide +kernel, by decide +kernel⟩, gW_t (List.mem_of_getElem? (i := 805) (by decide +kernel)) (by decide +kernel), gW_of (List.mem_append_left _ (by decide +kernel)) (by decide +kernel)⟩
theorem M_X6_110 : LkV RX6 110 RX6 yX6_bitOf cX6_bitOf 5 (some .int) 2 := ⟨⟨Or.inl (gW_t (List.mem_of_getElem? (i := 799) (by decide +kernel)) (by decide +kernel)), gW_t (List.mem_of_getElem? (i := 7) (by decide +kernel)) (by decide +kernel), gW_t (List.mem_of_getElem? (i := 802) (by decide +kernel)) (by decide +kernel), by decide +kernel, by decide +kernel, by decide +kernel⟩, gW_t (List.mem_of_getElem? (i := 801) (by decide +kernel)) (by decide +kernel), gW_of (List.mem_append_left _ (by decide +kernel)) (by decide +kernel)⟩
theorem M_X6_113 : LkS RX6 113 yX6_goesOn cX6_goesOn 2 (some .int) 1 := ⟨⟨Or.inl (gW_t (List.mem_of_getElem? (i := 807) (by decide +kernel)) (by decide +kernel)), gW_t (List.mem_of_getElem? (i := 7) (by decide +kernel)) (by decide +kernel), gW_t (List.mem_of_getElem? (i := 809) (by decide +kernel)) (by decide +kernel), by decide +kernel, by decide +kernel, by decide +kernel⟩, gW_t (List.mem_of_getElem? (i := 808) (by decide +kernel)) (by decide +kernel)⟩
theorem K_X6_116 : Cond.constantLong RX6 116 (4) ∈ gW := gW_t (List.mem_of_getElem? (i := 814) (by decide +kernel)) (by decide +kernel)
theorem K_X6_118 : Cond.constantLong RX6 118 (65536) ∈ gW := gW_t (List.mem_of_getElem? (i := 815) (by decide +kernel)) (by decide +kernel)
theorem K_X6_120 : Cond.constantLong RX6 120 (2) ∈ gW := gW_t (List.mem_of_getElem? (i := 816) (by decide +kernel)) (by decide +kernel)
theorem M_X6_122 : LkS RX6 122 yX6_apart cX6_apart 2 (some .int) 2 := ⟨⟨Or.inl (gW_t (List.mem_of_getElem? (i := 829) (by decide +kernel)) (by decide +kernel)), gW_t (List.mem_of_getElem? (i := 7) (by decide +kernel)) (by decide +kernel), gW_t (List.mem_of_getElem? (i := 831) (by decide +kernel)) (by decide +kernel), by decide +kernel, by decide +kernel, by decide +kernel⟩, gW_t (List.mem_of_getElem? (i := 830) (by decide +kernel)) (by decide +kernel)⟩
theorem M_X6_125 : LkV RX6 125 RX6 yX6_lays cX6_lays 5 none 2 := ⟨⟨Or.inl (gW_t (List.mem_of_getElem? (i := 795) (by decide +kernel)) (by decide +kernel)), gW_t (List.mem_of_getElem? (i := 7) (by decide +kernel)) (by decide +kernel), gW_t (List.mem_of_getElem? (i := 798) (by decide +kernel)) (by decide +kernel), by decide +kernel, by decide +kernel, by decide +kernel⟩, gW_t (List.mem_of_getElem? (i := 797) (by decide +kernel)) (by decide +kernel), gW_of (List.mem_append_left _ (by decide +kernel)) (by decide +kernel)⟩
theorem M_X6_129 : LkV RX6 129 RX6 yX6_findsExact cX6_findsExact 14 none 1 := ⟨⟨Or.inl (gW_t (List.mem_of_getElem? (i := 810) (by decide +kernel)) (by decide +kernel)), gW_t (List.mem_of_getElem? (i := 7) (by decide +kernel)) (by decide +kernel), gW_t (List.mem_of_getElem? (i := 813) (by decide +kernel)) (by decide +kernel), by decide +kernel, by decide +kernel, by decide +kernel⟩, gW_t (List.mem_of_getElem? (i := 812) (by decide +kernel)) (by decide +kernel), gW_of (List.mem_append_left _ (by decide +kernel)) (by decide +kernel)⟩
theorem M_X6_133 : LkV RX6 133 RX6 yX6_countOf cX6_countOf 5 (some .int) 2 := ⟨⟨Or.inl (gW_t (List.mem_of_getElem? (i := 821) (by decide +kernel)) (by decide +kernel)), gW_t (List.mem_of_getElem? (i := 7) (by decide +kernel)) (by decide +kernel), gW_t (List.mem_of_getElem? (i := 824) (by decide +kernel)) (by decide +kernel), by decide +kernel, by decide +kernel, by decide +kernel⟩, gW_t (List.mem_of_getElem? (i := 823) (by decide +kernel)) (by decide +kernel), gW_of (List.mem_append_left _ (by decide +kernel)) (by decide +kernel)⟩
theorem M_X6_136 : LkV RX6 136 RX6 yX6_errorBy cX6_errorBy 4 (some .int) 3 := ⟨⟨Or.inl (gW_t (List.mem_of_getElem? (i := 825) (by decide +kernel)) (by decide +kernel)), gW_t (List.mem_of_getElem? (i := 7) (by decide +kernel)) (by decide +kernel), gW_t (List.mem_of_getElem? (i := 828) (by decide +kernel)) (by decide +kernel), by decide +kernel, by decide +kernel, by decide +kernel⟩, gW_t (List.mem_of_getElem? (i := 827) (by decide +kernel)) (by decide +kernel), gW_of (List.mem_append_left _ (by decide +kernel)) (by decide +kernel)⟩
theorem L_X6_140 : FLk RX6 140 "ShareStreamsModel" "textLong" "I" := Or.inl (gW_t (List.mem_of_getElem? (i := 610) (by decide +kernel)) (by decide +kernel))
theorem M_X6_143 : LkS RX6 143 yX6_sizeOf cX6_sizeOf 5 (some .int) 1 := ⟨⟨Or.inl (gW_t (List.mem_of_getElem? (i := 751) (by decide +kernel)) (by decide +kernel)), gW_t (List.mem_of_getElem? (i := 7) (by decide +kernel)) (by decide +kernel), gW_t (List.mem_of_getElem? (i := 753) (by decide +kernel)) (by decide +kernel), by decide +kernel, by decide +kernel, by decide +kernel⟩, gW_t (List.mem_of_getElem? (i := 752) (by decide +kernel)) (by decide +kernel)⟩
theorem L_X6_147 : FLk RX6 147 "ShareStreamsModel" "spot" "I" := Or.inl (gW_t (List.mem_of_getElem? (i := 611) (by decide +kernel)) (by decide +kernel))
theorem M_X6_150 : LkV RX6 150 RX6 yX6_likeness cX6_likeness 5 (some .int) 1 := ⟨⟨Or.inl (gW_t (List.mem_of_getElem? (i := 747) (by decide +kernel)) (by decide +kernel)), gW_t (List.mem_of_getElem? (i := 7) (by decide +kernel)) (by decide +kernel), gW_t (List.mem_of_getElem? (i := 750) (by decide +kernel)) (by decide +kernel), by decide +kernel, by decide +kernel, by decide +kernel⟩, gW_t (List.mem_of_getElem? (i := 749) (by decide +kernel)) (by decide +kernel), gW_of (List.mem_append_left _ (by decide +kernel)) (by decide +kernel)⟩
theorem M_X6_153 : LkV RX6 153 RX6 yX6_isHere cX6_isHere 3 (some .boolean) 2 := ⟨⟨Or.inl (gW_t (List.mem_of_getElem? (i := 766) (by decide +kernel)) (by decide +kernel)), gW_t (List.mem_of_getElem? (i := 7) (by decide +kernel)) (by decide +kernel), gW_t (List.mem_of_getElem? (i := 769) (by decide +kernel)) (by decide +kernel), by decide +kernel, by decide +kernel, by decide +kernel⟩, gW_t (List.mem_of_getElem? (i := 768) (by decide +kernel)) (by decide +kernel), gW_of (List.mem_append_left _ (by decide +kernel)) (by decide +kernel)⟩
theorem M_X6_157 : LkV RX6 157 RX6 yX6_takes cX6_takes 3 (some .boolean) 1 := ⟨⟨Or.inl (gW_t (List.mem_of_getElem? (i := 762) (by decide +kernel)) (by decide +kernel)), gW_t (List.mem_of_getElem? (i := 7) (by decide +kernel)) (by decide +kernel), gW_t (List.mem_of_getElem? (i := 765) (by decide +kernel)) (by decide +kernel), by decide +kernel, by decide +kernel, by decide +kernel⟩, gW_t (List.mem_of_getElem? (i := 764) (by decide +kernel)) (by decide +kernel), gW_of (List.mem_append_left _ (by decide +kernel)) (by decide +kernel)⟩
theorem L_X6_160 : FLk RX6 160 "ShareStreamsModel" "number" "I" := Or.inl (gW_t (List.mem_of_getElem? (i := 614) (by decide +kernel)) (by decide +kernel))
theorem M_X6_163 : LkV RX6 163 RX6 yX6_readsNumber cX6_readsNumber 3 (some .boolean) 2 := ⟨⟨Or.inl (gW_t (List.mem_of_getElem? (i := 758) (by decide +kernel)) (by decide +kernel)), gW_t (List.mem_of_getElem? (i := 7) (by decide +kernel)) (by decide +kernel), gW_t (List.mem_of_getElem? (i := 761) (by decide +kernel)) (by decide +kernel), by decide +kernel, by decide +kernel, by decide +kernel⟩, gW_t (List.mem_of_getElem? (i := 760) (by decide +kernel)) (by decide +kernel), gW_of (List.mem_append_left _ (by decide +kernel)) (by decide +kernel)⟩
theorem L_X6_166 : FLk RX6 166 "ShareStreamsModel" "readMany" "I" := Or.inl (gW_t (List.mem_of_getElem? (i := 613) (by decide +kernel)) (by decide +kernel))
theorem M_X6_169 : LkV RX6 169 RX6 yX6_readsWord cX6_readsWord 5 (some .int) 0 := ⟨⟨Or.inl (gW_t (List.mem_of_getElem? (i := 743) (by decide +kernel)) (by decide +kernel)), gW_t (List.mem_of_getElem? (i := 7) (by decide +kernel)) (by decide +kernel), gW_t (List.mem_of_getElem? (i := 746) (by decide +kernel)) (by decide +kernel), by decide +kernel, by decide +kernel, by decide +kernel⟩, gW_t (List.mem_of_getElem? (i := 745) (by decide +kernel)) (by decide +kernel), gW_of (List.mem_append_left _ (by decide +kernel)) (by decide +kernel)⟩
theorem M_X6_173 : LkV RX6 173 RX6 yX6_readsPart cX6_readsPart 6 (some .boolean) 2 := ⟨⟨Or.inl (gW_t (List.mem_of_getElem? (i := 754) (by decide +kernel)) (by decide +kernel)), gW_t (List.mem_of_getElem? (i := 7) (by decide +kernel)) (by decide +kernel), gW_t (List.mem_of_getElem? (i := 757) (by decide +kernel)) (by decide +kernel), by decide +kernel, by decide +kernel, by decide +kernel⟩, gW_t (List.mem_of_getElem? (i := 756) (by decide +kernel)) (by decide +kernel), gW_of (List.mem_append_left _ (by decide +kernel)) (by decide +kernel)⟩
theorem M_X6_176 : LkV RX6 176 RX6 yX6_readsLine cX6_readsLine 4 (some .boolean) 0 := ⟨⟨Or.inl (gW_t (List.mem_of_getElem? (i := 739) (by decide +kernel)) (by decide +kernel)), gW_t (List.mem_of_getElem? (i := 7) (by decide +kernel)) (by decide +kernel), gW_t (List.mem_of_getElem? (i := 742) (by decide +kernel)) (by decide +kernel), by decide +kernel, by decide +kernel, by decide +kernel⟩, gW_t (List.mem_of_getElem? (i := 741) (by decide +kernel)) (by decide +kernel), gW_of (List.mem_append_left _ (by decide +kernel)) (by decide +kernel)⟩
theorem M_X6_180 : LkS RX6 180 yX6_linesBy cX6_linesBy 1 (some .int) 1 := ⟨⟨Or.inl (gW_t (List.mem_of_getElem? (i := 775) (by decide +kernel)) (by decide +kernel)), gW_t (List.mem_of_getElem? (i := 7) (by decide +kernel)) (by decide +kernel), gW_t (List.mem_of_getElem? (i := 777) (by decide +kernel)) (by decide +kernel), by decide +kernel, by decide +kernel, by decide +kernel⟩, gW_t (List.mem_of_getElem? (i := 776) (by decide +kernel)) (by decide +kernel)⟩
theorem M_X6_183 : LkV RX6 183 RX6 yX6_fault cX6_fault 2 (some .int) 0 := ⟨⟨Or.inl (gW_t (List.mem_of_getElem? (i := 735) (by decide +kernel)) (by decide +kernel)), gW_t (List.mem_of_getElem? (i := 7) (by decide +kernel)) (by decide +kernel), gW_t (List.mem_of_getElem? (i := 738) (by decide +kernel)) (by decide +kernel), by decide +kernel, by decide +kernel, by decide +kernel⟩, gW_t (List.mem_of_getElem? (i := 737) (by decide +kernel)) (by decide +kernel), gW_of (List.mem_append_left _ (by decide +kernel)) (by decide +kernel)⟩
theorem K_X6_186 : Cond.constant RX6 186 (-100000100) ∈ gW := gW_t (List.mem_of_getElem? (i := 770) (by decide +kernel)) (by decide +kernel)
theorem M_X6_187 : LkV RX6 187 RX6 yX6_isAhead cX6_isAhead 4 (some .boolean) 1 := ⟨⟨Or.inl (gW_t (List.mem_of_getElem? (i := 771) (by decide +kernel)) (by decide +kernel)), gW_t (List.mem_of_getElem? (i := 7) (by decide +kernel)) (by decide +kernel), gW_t (List.mem_of_getElem? (i := 774) (by decide +kernel)) (by decide +kernel), by decide +kernel, by decide +kernel, by decide +kernel⟩, gW_t (List.mem_of_getElem? (i := 773) (by decide +kernel)) (by decide +kernel), gW_of (List.mem_append_left _ (by decide +kernel)) (by decide +kernel)⟩
theorem L_X6_190 : FLk RX6 190 "ShareStreamsModel" "isTaken" "I" := Or.inl (gW_t (List.mem_of_getElem? (i := 604) (by decide +kernel)) (by decide +kernel))
theorem K_X6_193 : Cond.constantLong RX6 193 (9) ∈ gW := gW_t (List.mem_of_getElem? (i := 794) (by decide +kernel)) (by decide +kernel)
theorem M_X6_195 : LkV RX6 195 RX6 yX6_findsDepths cX6_findsDepths 5 none 0 := ⟨⟨Or.inl (gW_t (List.mem_of_getElem? (i := 817) (by decide +kernel)) (by decide +kernel)), gW_t (List.mem_of_getElem? (i := 7) (by decide +kernel)) (by decide +kernel), gW_t (List.mem_of_getElem? (i := 820) (by decide +kernel)) (by decide +kernel), by decide +kernel, by decide +kernel, by decide +kernel⟩, gW_t (List.mem_of_getElem? (i := 819) (by decide +kernel)) (by decide +kernel), gW_of (List.mem_append_left _ (by decide +kernel)) (by decide +kernel)⟩
theorem M_X6_198 : LkS RX6 198 yX6_bitsOf cX6_bitsOf 3 (some .int) 1 := ⟨⟨Or.inl (gW_t (List.mem_of_getElem? (i := 832) (by decide +kernel)) (by decide +kernel)), gW_t (List.mem_of_getElem? (i := 7) (by decide +kernel)) (by decide +kernel), gW_t (List.mem_of_getElem? (i := 834) (by decide +kernel)) (by decide +kernel), by decide +kernel, by decide +kernel, by decide +kernel⟩, gW_t (List.mem_of_getElem? (i := 833) (by decide +kernel)) (by decide +kernel)⟩
theorem K_X6_201 : Cond.constantLong RX6 201 (999) ∈ gW := gW_t (List.mem_of_getElem? (i := 839) (by decide +kernel)) (by decide +kernel)
theorem M_X6_203 : LkV RX6 203 RX6 yX6_errorOf cX6_errorOf 3 (some .int) 2 := ⟨⟨Or.inl (gW_t (List.mem_of_getElem? (i := 848) (by decide +kernel)) (by decide +kernel)), gW_t (List.mem_of_getElem? (i := 7) (by decide +kernel)) (by decide +kernel), gW_t (List.mem_of_getElem? (i := 851) (by decide +kernel)) (by decide +kernel), by decide +kernel, by decide +kernel, by decide +kernel⟩, gW_t (List.mem_of_getElem? (i := 850) (by decide +kernel)) (by decide +kernel), gW_of (List.mem_append_left _ (by decide +kernel)) (by decide +kernel)⟩
theorem M_X6_206 : LkV RX6 206 RX6 yX6_manySources cX6_manySources 3 (some .int) 0 := ⟨⟨Or.inl (gW_t (List.mem_of_getElem? (i := 868) (by decide +kernel)) (by decide +kernel)), gW_t (List.mem_of_getElem? (i := 7) (by decide +kernel)) (by decide +kernel), gW_t (List.mem_of_getElem? (i := 871) (by decide +kernel)) (by decide +kernel), by decide +kernel, by decide +kernel, by decide +kernel⟩, gW_t (List.mem_of_getElem? (i := 870) (by decide +kernel)) (by decide +kernel), gW_of (List.mem_append_left _ (by decide +kernel)) (by decide +kernel)⟩
theorem M_X6_209 : LkV RX6 209 RX6 yX6_errors cX6_errors 3 (some .int) 0 := ⟨⟨Or.inl (gW_t (List.mem_of_getElem? (i := 872) (by decide +kernel)) (by decide +kernel)), gW_t (List.mem_of_getElem? (i := 7) (by decide +kernel)) (by decide +kernel), gW_t (List.mem_of_getElem? (i := 875) (by decide +kernel)) (by decide +kernel), by decide +kernel, by decide +kernel, by decide +kernel⟩, gW_t (List.mem_of_getElem? (i := 874) (by decide +kernel)) (by decide +kernel), gW_of (List.mem_append_left _ (by decide +kernel)) (by decide +kernel)⟩
theorem M_X6_212 : LkV RX6 212 RX6 yX6_worst cX6_worst 5 (some .int) 0 := ⟨⟨Or.inl (gW_t (List.mem_of_getElem? (i := 876) (by decide +kernel)) (by decide +kernel)), gW_t (List.mem_of_getElem? (i := 7) (by decide +kernel)) (by decide +kernel), gW_t (List.mem_of_getElem? (i := 879) (by decide +kernel)) (by decide +kernel), by decide +kernel, by decide +kernel, by decide +kernel⟩, gW_t (List.mem_of_getElem? (i := 878) (by decide +kernel)) (by decide +kernel), gW_of (List.mem_append_left _ (by decide +kernel)) (by decide +kernel)⟩
theorem M_X6_215 : LkV RX6 215 RX6 yX6_deepest cX6_deepest 3 (some .int) 0 := ⟨⟨Or.inl (gW_t (List.mem_of_getElem? (i := 880) (by decide +kernel)) (by decide +kernel)), gW_t (List.mem_of_getElem? (i := 7) (by decide +kernel)) (by decide +kernel), gW_t (List.mem_of_getElem? (i := 883) (by decide +kernel)) (by decide +kernel), by decide +kernel, by decide +kernel, by decide +kernel⟩, gW_t (List.mem_of_getElem? (i := 882) (by decide +kernel)) (by decide +kernel), gW_of (List.mem_append_left _ (by decide +kernel)) (by decide +kernel)⟩
theorem K_J6_265 : Cond.constant RJ6 265 (1431655765) ∈ gW := gW_t (List.mem_of_getElem? (i := 516) (by decide +kernel)) (by decide +kernel)
theorem K_J6_266 : Cond.constant RJ6 266 (858993459) ∈ gW := gW_t (List.mem_of_getElem? (i := 517) (by decide +kernel)) (by decide +kernel)
theorem K_J6_267 : Cond.constant RJ6 267 (252645135) ∈ gW := gW_t (List.mem_of_getElem? (i := 518) (by decide +kernel)) (by decide +kernel)
theorem K_J13_314 : Cond.constantLong RJ13 314 (6148914691236517205) ∈ gW := gW_t (List.mem_of_getElem? (i := 445) (by decide +kernel)) (by decide +kernel)
theorem K_J13_316 : Cond.constantLong RJ13 316 (3689348814741910323) ∈ gW := gW_t (List.mem_of_getElem? (i := 446) (by decide +kernel)) (by decide +kernel)
theorem K_J13_318 : Cond.constantLong RJ13 318 (1085102592571150095) ∈ gW := gW_t (List.mem_of_getElem? (i := 447) (by decide +kernel)) (by decide +kernel)
theorem M_J0_335 : LkV RJ0 335 RJ0 yJ0_coder_7d493 cJ0_coder_7d493 1 (some .byte) 0 := ⟨⟨Or.inl (gW_t (List.mem_of_getElem? (i := 324) (by decide +kernel)) (by decide +kernel)), gW_t (List.mem_of_getElem? (i := 9) (by decide +kernel)) (by decide +kernel), gW_t (List.mem_of_getElem? (i := 327) (by decide +kernel)) (by decide +kernel), by decide +kernel, by decide +kernel, by decide +kernel⟩, gW_t (List.mem_of_getElem? (i := 325) (by decide +kernel)) (by decide +kernel), gW_t (List.mem_of_getElem? (i := 326) (by decide +kernel)) (by decide +kernel)⟩
theorem M_J0_492 : LkV RJ0 492 RJ0 yJ0_isLatin1_aae02 cJ0_isLatin1_aae02 1 (some .boolean) 0 := ⟨⟨Or.inl (gW_t (List.mem_of_getElem? (i := 276) (by decide +kernel)) (by decide +kernel)), gW_t (List.mem_of_getElem? (i := 9) (by decide +kernel)) (by decide +kernel), gW_t (List.mem_of_getElem? (i := 279) (by decide +kernel)) (by decide +kernel), by decide +kernel, by decide +kernel, by decide +kernel⟩, gW_t (List.mem_of_getElem? (i := 277) (by decide +kernel)) (by decide +kernel), gW_t (List.mem_of_getElem? (i := 278) (by decide +kernel)) (by decide +kernel)⟩
theorem M_J0_495 : LkS RJ0 495 yJ1_charAt_3b067 cJ1_charAt_3b067 2 (some .char) 2 := ⟨⟨Or.inl (gW_t (List.mem_of_getElem? (i := 282) (by decide +kernel)) (by decide +kernel)), gW_t (List.mem_of_getElem? (i := 10) (by decide +kernel)) (by decide +kernel), gW_t (List.mem_of_getElem? (i := 284) (by decide +kernel)) (by decide +kernel), by decide +kernel, by decide +kernel, by decide +kernel⟩, gW_t (List.mem_of_getElem? (i := 283) (by decide +kernel)) (by decide +kernel)⟩
theorem M_J0_498 : LkS RJ0 498 yJ2_charAt_3b067 cJ2_charAt_3b067 2 (some .char) 2 := ⟨⟨Or.inl (gW_t (List.mem_of_getElem? (i := 293) (by decide +kernel)) (by decide +kernel)), gW_t (List.mem_of_getElem? (i := 12) (by decide +kernel)) (by decide +kernel), gW_t (List.mem_of_getElem? (i := 295) (by decide +kernel)) (by decide +kernel), by decide +kernel, by decide +kernel, by decide +kernel⟩, gW_t (List.mem_of_getElem? (i := 294) (by decide +kernel)) (by decide +kernel)⟩
theorem L_J0_38 : Cond.fieldLink RJ0 38 "java/lang/String" "COMPACT_STRINGS" "Z" ∈ gW := gW_t (List.mem_of_getElem? (i := 280) (by decide +kernel)) (by decide +kernel)
theorem M_J0_1059 : LkS RJ0 1059 yJ3_checkIndex_8e157 cJ3_checkIndex_8e157 3 (some .int) 3 := ⟨⟨Or.inl (gW_t (List.mem_of_getElem? (i := 290) (by decide +kernel)) (by decide +kernel)), gW_t (List.mem_of_getElem? (i := 11) (by decide +kernel)) (by decide +kernel), gW_t (List.mem_of_getElem? (i := 292) (by decide +kernel)) (by decide +kernel), by decide +kernel, by decide +kernel, by decide +kernel⟩, gW_t (List.mem_of_getElem? (i := 291) (by decide +kernel)) (by decide +kernel)⟩
theorem M_J1_9 : LkS RJ1 9 yJ0_checkIndex_df160 cJ0_checkIndex_df160 2 none 2 := ⟨⟨Or.inl (gW_t (List.mem_of_getElem? (i := 285) (by decide +kernel)) (by decide +kernel)), gW_t (List.mem_of_getElem? (i := 9) (by decide +kernel)) (by decide +kernel), gW_t (List.mem_of_getElem? (i := 287) (by decide +kernel)) (by decide +kernel), by decide +kernel, by decide +kernel, by decide +kernel⟩, gW_t (List.mem_of_getElem? (i := 286) (by decide +kernel)) (by decide +kernel)⟩
theorem M_J2_48 : LkS RJ2 48 yJ2_length_9d52b cJ2_length_9d52b 1 (some .int) 1 := ⟨⟨Or.inl (gW_t (List.mem_of_getElem? (i := 299) (by decide +kernel)) (by decide +kernel)), gW_t (List.mem_of_getElem? (i := 12) (by decide +kernel)) (by decide +kernel), gW_t (List.mem_of_getElem? (i := 301) (by decide +kernel)) (by decide +kernel), by decide +kernel, by decide +kernel, by decide +kernel⟩, gW_t (List.mem_of_getElem? (i := 300) (by decide +kernel)) (by decide +kernel)⟩
theorem M_J2_67 : LkS RJ2 67 yJ2_checkIndex_2214a cJ2_checkIndex_2214a 2 none 2 := ⟨⟨Or.inl (gW_t (List.mem_of_getElem? (i := 296) (by decide +kernel)) (by decide +kernel)), gW_t (List.mem_of_getElem? (i := 12) (by decide +kernel)) (by decide +kernel), gW_t (List.mem_of_getElem? (i := 298) (by decide +kernel)) (by decide +kernel), by decide +kernel, by decide +kernel, by decide +kernel⟩, gW_t (List.mem_of_getElem? (i := 297) (by decide +kernel)) (by decide +kernel)⟩
theorem M_J2_71 : LkS RJ2 71 yJ2_getChar_3b067 cJ2_getChar_3b067 2 (some .char) 2 := ⟨⟨Or.inl (gW_t (List.mem_of_getElem? (i := 303) (by decide +kernel)) (by decide +kernel)), gW_t (List.mem_of_getElem? (i := 12) (by decide +kernel)) (by decide +kernel), gW_t (List.mem_of_getElem? (i := 305) (by decide +kernel)) (by decide +kernel), by decide +kernel, by decide +kernel, by decide +kernel⟩, gW_t (List.mem_of_getElem? (i := 304) (by decide +kernel)) (by decide +kernel)⟩
theorem M_J2_414 : LkS RJ2 414 yJ0_checkIndex_df160 cJ0_checkIndex_df160 2 none 2 := ⟨⟨Or.inl (gW_t (List.mem_of_getElem? (i := 302) (by decide +kernel)) (by decide +kernel)), gW_t (List.mem_of_getElem? (i := 9) (by decide +kernel)) (by decide +kernel), gW_t (List.mem_of_getElem? (i := 287) (by decide +kernel)) (by decide +kernel), by decide +kernel, by decide +kernel, by decide +kernel⟩, gW_t (List.mem_of_getElem? (i := 286) (by decide +kernel)) (by decide +kernel)⟩
theorem M_L_13 : LkV RL 13 RX5 yX5_source cX5_source 3 (some .int) 2 := ⟨⟨Or.inl (gW_t (List.mem_of_getElem? (i := 139) (by decide +kernel)) (by decide +kernel)), gW_t (List.mem_of_getElem? (i := 1) (by decide +kernel)) (by decide +kernel), gW_t (List.mem_of_getElem? (i := 142) (by decide +kernel)) (by decide +kernel), by decide +kernel, by decide +kernel, by decide +kernel⟩, gW_t (List.mem_of_getElem? (i := 140) (by decide +kernel)) (by decide +kernel), gW_t (List.mem_of_getElem? (i := 141) (by decide +kernel)) (by decide +kernel)⟩
theorem M_L_17 : LkV RL 17 RX6 yX6_source cX6_source 3 (some .int) 2 := ⟨⟨Or.inl (gW_t (List.mem_of_getElem? (i := 654) (by decide +kernel)) (by decide +kernel)), gW_t (List.mem_of_getElem? (i := 7) (by decide +kernel)) (by decide +kernel), gW_t (List.mem_of_getElem? (i := 657) (by decide +kernel)) (by decide +kernel), by decide +kernel, by decide +kernel, by decide +kernel⟩, gW_t (List.mem_of_getElem? (i := 655) (by decide +kernel)) (by decide +kernel), gW_t (List.mem_of_getElem? (i := 656) (by decide +kernel)) (by decide +kernel)⟩
theorem M_L_18 : LkV RL 18 RX5 yX5_gate cX5_gate 4 (some .int) 3 := ⟨⟨Or.inl (gW_t (List.mem_of_getElem? (i := 197) (by decide +kernel)) (by decide +kernel)), gW_t (List.mem_of_getElem? (i := 1) (by decide +kernel)) (by decide +kernel), gW_t (List.mem_of_getElem? (i := 200) (by decide +kernel)) (by decide +kernel), by decide +kernel, by decide +kernel, by decide +kernel⟩, gW_t (List.mem_of_getElem? (i := 198) (by decide +kernel)) (by decide +kernel), gW_t (List.mem_of_getElem? (i := 199) (by decide +kernel)) (by decide +kernel)⟩
theorem M_L_22 : LkV RL 22 RX6 yX6_gate cX6_gate 4 (some .int) 3 := ⟨⟨Or.inl (gW_t (List.mem_of_getElem? (i := 682) (by decide +kernel)) (by decide +kernel)), gW_t (List.mem_of_getElem? (i := 7) (by decide +kernel)) (by decide +kernel), gW_t (List.mem_of_getElem? (i := 685) (by decide +kernel)) (by decide +kernel), by decide +kernel, by decide +kernel, by decide +kernel⟩, gW_t (List.mem_of_getElem? (i := 683) (by decide +kernel)) (by decide +kernel), gW_t (List.mem_of_getElem? (i := 684) (by decide +kernel)) (by decide +kernel)⟩
theorem M_L_23 : LkV RL 23 RX5 yX5_choose cX5_choose 4 (some .int) 3 := ⟨⟨Or.inl (gW_t (List.mem_of_getElem? (i := 206) (by decide +kernel)) (by decide +kernel)), gW_t (List.mem_of_getElem? (i := 1) (by decide +kernel)) (by decide +kernel), gW_t (List.mem_of_getElem? (i := 209) (by decide +kernel)) (by decide +kernel), by decide +kernel, by decide +kernel, by decide +kernel⟩, gW_t (List.mem_of_getElem? (i := 207) (by decide +kernel)) (by decide +kernel), gW_t (List.mem_of_getElem? (i := 208) (by decide +kernel)) (by decide +kernel)⟩
theorem M_L_26 : LkV RL 26 RX6 yX6_choose cX6_choose 4 (some .int) 3 := ⟨⟨Or.inl (gW_t (List.mem_of_getElem? (i := 692) (by decide +kernel)) (by decide +kernel)), gW_t (List.mem_of_getElem? (i := 7) (by decide +kernel)) (by decide +kernel), gW_t (List.mem_of_getElem? (i := 695) (by decide +kernel)) (by decide +kernel), by decide +kernel, by decide +kernel, by decide +kernel⟩, gW_t (List.mem_of_getElem? (i := 693) (by decide +kernel)) (by decide +kernel), gW_t (List.mem_of_getElem? (i := 694) (by decide +kernel)) (by decide +kernel)⟩
theorem M_L_27 : LkV RL 27 RX5 yX5_turn cX5_turn 2 (some .int) 1 := ⟨⟨Or.inl (gW_t (List.mem_of_getElem? (i := 210) (by decide +kernel)) (by decide +kernel)), gW_t (List.mem_of_getElem? (i := 1) (by decide +kernel)) (by decide +kernel), gW_t (List.mem_of_getElem? (i := 213) (by decide +kernel)) (by decide +kernel), by decide +kernel, by decide +kernel, by decide +kernel⟩, gW_t (List.mem_of_getElem? (i := 211) (by decide +kernel)) (by decide +kernel), gW_t (List.mem_of_getElem? (i := 212) (by decide +kernel)) (by decide +kernel)⟩
theorem M_L_31 : LkV RL 31 RX6 yX6_turn cX6_turn 2 (some .int) 1 := ⟨⟨Or.inl (gW_t (List.mem_of_getElem? (i := 696) (by decide +kernel)) (by decide +kernel)), gW_t (List.mem_of_getElem? (i := 7) (by decide +kernel)) (by decide +kernel), gW_t (List.mem_of_getElem? (i := 699) (by decide +kernel)) (by decide +kernel), by decide +kernel, by decide +kernel, by decide +kernel⟩, gW_t (List.mem_of_getElem? (i := 697) (by decide +kernel)) (by decide +kernel), gW_t (List.mem_of_getElem? (i := 698) (by decide +kernel)) (by decide +kernel)⟩
theorem M_L_32 : LkV RL 32 RX5 yX5_delay cX5_delay 3 (some .int) 2 := ⟨⟨Or.inl (gW_t (List.mem_of_getElem? (i := 214) (by decide +kernel)) (by decide +kernel)), gW_t (List.mem_of_getElem? (i := 1) (by decide +kernel)) (by decide +kernel), gW_t (List.mem_of_getElem? (i := 217) (by decide +kernel)) (by decide +kernel), by decide +kernel, by decide +kernel, by decide +kernel⟩, gW_t (List.mem_of_getElem? (i := 215) (by decide +kernel)) (by decide +kernel), gW_t (List.mem_of_getElem? (i := 216) (by decide +kernel)) (by decide +kernel)⟩
theorem M_L_35 : LkV RL 35 RX6 yX6_delay cX6_delay 3 (some .int) 2 := ⟨⟨Or.inl (gW_t (List.mem_of_getElem? (i := 700) (by decide +kernel)) (by decide +kernel)), gW_t (List.mem_of_getElem? (i := 7) (by decide +kernel)) (by decide +kernel), gW_t (List.mem_of_getElem? (i := 703) (by decide +kernel)) (by decide +kernel), by decide +kernel, by decide +kernel, by decide +kernel⟩, gW_t (List.mem_of_getElem? (i := 701) (by decide +kernel)) (by decide +kernel), gW_t (List.mem_of_getElem? (i := 702) (by decide +kernel)) (by decide +kernel)⟩
theorem M_L_36 : LkV RL 36 RX5 yX5_reseed cX5_reseed 5 (some .int) 3 := ⟨⟨Or.inl (gW_t (List.mem_of_getElem? (i := 218) (by decide +kernel)) (by decide +kernel)), gW_t (List.mem_of_getElem? (i := 1) (by decide +kernel)) (by decide +kernel), gW_t (List.mem_of_getElem? (i := 221) (by decide +kernel)) (by decide +kernel), by decide +kernel, by decide +kernel, by decide +kernel⟩, gW_t (List.mem_of_getElem? (i := 219) (by decide +kernel)) (by decide +kernel), gW_t (List.mem_of_getElem? (i := 220) (by decide +kernel)) (by decide +kernel)⟩
theorem M_L_39 : LkV RL 39 RX6 yX6_reseed cX6_reseed 5 (some .int) 3 := ⟨⟨Or.inl (gW_t (List.mem_of_getElem? (i := 705) (by decide +kernel)) (by decide +kernel)), gW_t (List.mem_of_getElem? (i := 7) (by decide +kernel)) (by decide +kernel), gW_t (List.mem_of_getElem? (i := 708) (by decide +kernel)) (by decide +kernel), by decide +kernel, by decide +kernel, by decide +kernel⟩, gW_t (List.mem_of_getElem? (i := 706) (by decide +kernel)) (by decide +kernel), gW_t (List.mem_of_getElem? (i := 707) (by decide +kernel)) (by decide +kernel)⟩
theorem M_L_40 : LkV RL 40 RX5 yX5_removeLast cX5_removeLast 1 (some .int) 0 := ⟨⟨Or.inl (gW_t (List.mem_of_getElem? (i := 230) (by decide +kernel)) (by decide +kernel)), gW_t (List.mem_of_getElem? (i := 1) (by decide +kernel)) (by decide +kernel), gW_t (List.mem_of_getElem? (i := 233) (by decide +kernel)) (by decide +kernel), by decide +kernel, by decide +kernel, by decide +kernel⟩, gW_t (List.mem_of_getElem? (i := 231) (by decide +kernel)) (by decide +kernel), gW_t (List.mem_of_getElem? (i := 232) (by decide +kernel)) (by decide +kernel)⟩
theorem M_L_44 : LkV RL 44 RX6 yX6_removeLast cX6_removeLast 1 (some .int) 0 := ⟨⟨Or.inl (gW_t (List.mem_of_getElem? (i := 714) (by decide +kernel)) (by decide +kernel)), gW_t (List.mem_of_getElem? (i := 7) (by decide +kernel)) (by decide +kernel), gW_t (List.mem_of_getElem? (i := 717) (by decide +kernel)) (by decide +kernel), by decide +kernel, by decide +kernel, by decide +kernel⟩, gW_t (List.mem_of_getElem? (i := 715) (by decide +kernel)) (by decide +kernel), gW_t (List.mem_of_getElem? (i := 716) (by decide +kernel)) (by decide +kernel)⟩
theorem M_L_45 : LkV RL 45 RX5 yX5_setLength cX5_setLength 3 (some .int) 1 := ⟨⟨Or.inl (gW_t (List.mem_of_getElem? (i := 238) (by decide +kernel)) (by decide +kernel)), gW_t (List.mem_of_getElem? (i := 1) (by decide +kernel)) (by decide +kernel), gW_t (List.mem_of_getElem? (i := 241) (by decide +kernel)) (by decide +kernel), by decide +kernel, by decide +kernel, by decide +kernel⟩, gW_t (List.mem_of_getElem? (i := 239) (by decide +kernel)) (by decide +kernel), gW_t (List.mem_of_getElem? (i := 240) (by decide +kernel)) (by decide +kernel)⟩
theorem M_L_48 : LkV RL 48 RX6 yX6_setLength cX6_setLength 3 (some .int) 1 := ⟨⟨Or.inl (gW_t (List.mem_of_getElem? (i := 718) (by decide +kernel)) (by decide +kernel)), gW_t (List.mem_of_getElem? (i := 7) (by decide +kernel)) (by decide +kernel), gW_t (List.mem_of_getElem? (i := 721) (by decide +kernel)) (by decide +kernel), by decide +kernel, by decide +kernel, by decide +kernel⟩, gW_t (List.mem_of_getElem? (i := 719) (by decide +kernel)) (by decide +kernel), gW_t (List.mem_of_getElem? (i := 720) (by decide +kernel)) (by decide +kernel)⟩
theorem M_L_49 : LkV RL 49 RX5 yX5_readCircuit cX5_readCircuit 2 (some .int) 0 := ⟨⟨Or.inl (gW_t (List.mem_of_getElem? (i := 242) (by decide +kernel)) (by decide +kernel)), gW_t (List.mem_of_getElem? (i := 1) (by decide +kernel)) (by decide +kernel), gW_t (List.mem_of_getElem? (i := 245) (by decide +kernel)) (by decide +kernel), by decide +kernel, by decide +kernel, by decide +kernel⟩, gW_t (List.mem_of_getElem? (i := 243) (by decide +kernel)) (by decide +kernel), gW_t (List.mem_of_getElem? (i := 244) (by decide +kernel)) (by decide +kernel)⟩
theorem M_L_52 : LkV RL 52 RX6 yX6_readCircuit cX6_readCircuit 3 (some .int) 0 := ⟨⟨Or.inl (gW_t (List.mem_of_getElem? (i := 731) (by decide +kernel)) (by decide +kernel)), gW_t (List.mem_of_getElem? (i := 7) (by decide +kernel)) (by decide +kernel), gW_t (List.mem_of_getElem? (i := 734) (by decide +kernel)) (by decide +kernel), by decide +kernel, by decide +kernel, by decide +kernel⟩, gW_t (List.mem_of_getElem? (i := 732) (by decide +kernel)) (by decide +kernel), gW_t (List.mem_of_getElem? (i := 733) (by decide +kernel)) (by decide +kernel)⟩
theorem M_L_53 : LkV RL 53 RX5 yX5_type cX5_type 2 (some .int) 1 := ⟨⟨Or.inl (gW_t (List.mem_of_getElem? (i := 366) (by decide +kernel)) (by decide +kernel)), gW_t (List.mem_of_getElem? (i := 1) (by decide +kernel)) (by decide +kernel), gW_t (List.mem_of_getElem? (i := 369) (by decide +kernel)) (by decide +kernel), by decide +kernel, by decide +kernel, by decide +kernel⟩, gW_t (List.mem_of_getElem? (i := 367) (by decide +kernel)) (by decide +kernel), gW_t (List.mem_of_getElem? (i := 368) (by decide +kernel)) (by decide +kernel)⟩
theorem M_L_57 : LkV RL 57 RX6 yX6_type cX6_type 2 (some .int) 1 := ⟨⟨Or.inl (gW_t (List.mem_of_getElem? (i := 723) (by decide +kernel)) (by decide +kernel)), gW_t (List.mem_of_getElem? (i := 7) (by decide +kernel)) (by decide +kernel), gW_t (List.mem_of_getElem? (i := 726) (by decide +kernel)) (by decide +kernel), by decide +kernel, by decide +kernel, by decide +kernel⟩, gW_t (List.mem_of_getElem? (i := 724) (by decide +kernel)) (by decide +kernel), gW_t (List.mem_of_getElem? (i := 725) (by decide +kernel)) (by decide +kernel)⟩
theorem M_L_58 : LkV RL 58 RX5 yX5_clearText cX5_clearText 2 (some .int) 0 := ⟨⟨Or.inl (gW_t (List.mem_of_getElem? (i := 374) (by decide +kernel)) (by decide +kernel)), gW_t (List.mem_of_getElem? (i := 1) (by decide +kernel)) (by decide +kernel), gW_t (List.mem_of_getElem? (i := 377) (by decide +kernel)) (by decide +kernel), by decide +kernel, by decide +kernel, by decide +kernel⟩, gW_t (List.mem_of_getElem? (i := 375) (by decide +kernel)) (by decide +kernel), gW_t (List.mem_of_getElem? (i := 376) (by decide +kernel)) (by decide +kernel)⟩
theorem M_L_61 : LkV RL 61 RX6 yX6_clearText cX6_clearText 2 (some .int) 0 := ⟨⟨Or.inl (gW_t (List.mem_of_getElem? (i := 727) (by decide +kernel)) (by decide +kernel)), gW_t (List.mem_of_getElem? (i := 7) (by decide +kernel)) (by decide +kernel), gW_t (List.mem_of_getElem? (i := 730) (by decide +kernel)) (by decide +kernel), by decide +kernel, by decide +kernel, by decide +kernel⟩, gW_t (List.mem_of_getElem? (i := 728) (by decide +kernel)) (by decide +kernel), gW_t (List.mem_of_getElem? (i := 729) (by decide +kernel)) (by decide +kernel)⟩
theorem M_L_62 : LkV RL 62 RX5 yX5_undo cX5_undo 1 (some .int) 0 := ⟨⟨Or.inl (gW_t (List.mem_of_getElem? (i := 378) (by decide +kernel)) (by decide +kernel)), gW_t (List.mem_of_getElem? (i := 1) (by decide +kernel)) (by decide +kernel), gW_t (List.mem_of_getElem? (i := 381) (by decide +kernel)) (by decide +kernel), by decide +kernel, by decide +kernel, by decide +kernel⟩, gW_t (List.mem_of_getElem? (i := 379) (by decide +kernel)) (by decide +kernel), gW_t (List.mem_of_getElem? (i := 380) (by decide +kernel)) (by decide +kernel)⟩
theorem M_L_65 : LkV RL 65 RX6 yX6_undo cX6_undo 2 (some .int) 0 := ⟨⟨Or.inl (gW_t (List.mem_of_getElem? (i := 778) (by decide +kernel)) (by decide +kernel)), gW_t (List.mem_of_getElem? (i := 7) (by decide +kernel)) (by decide +kernel), gW_t (List.mem_of_getElem? (i := 781) (by decide +kernel)) (by decide +kernel), by decide +kernel, by decide +kernel, by decide +kernel⟩, gW_t (List.mem_of_getElem? (i := 779) (by decide +kernel)) (by decide +kernel), gW_t (List.mem_of_getElem? (i := 780) (by decide +kernel)) (by decide +kernel)⟩
theorem M_L_66 : LkV RL 66 RX5 yX5_keep cX5_keep 1 (some .int) 0 := ⟨⟨Or.inl (gW_t (List.mem_of_getElem? (i := 386) (by decide +kernel)) (by decide +kernel)), gW_t (List.mem_of_getElem? (i := 1) (by decide +kernel)) (by decide +kernel), gW_t (List.mem_of_getElem? (i := 389) (by decide +kernel)) (by decide +kernel), by decide +kernel, by decide +kernel, by decide +kernel⟩, gW_t (List.mem_of_getElem? (i := 387) (by decide +kernel)) (by decide +kernel), gW_t (List.mem_of_getElem? (i := 388) (by decide +kernel)) (by decide +kernel)⟩
theorem M_L_69 : LkV RL 69 RX6 yX6_keep cX6_keep 2 (some .int) 0 := ⟨⟨Or.inl (gW_t (List.mem_of_getElem? (i := 782) (by decide +kernel)) (by decide +kernel)), gW_t (List.mem_of_getElem? (i := 7) (by decide +kernel)) (by decide +kernel), gW_t (List.mem_of_getElem? (i := 785) (by decide +kernel)) (by decide +kernel), by decide +kernel, by decide +kernel, by decide +kernel⟩, gW_t (List.mem_of_getElem? (i := 783) (by decide +kernel)) (by decide +kernel), gW_t (List.mem_of_getElem? (i := 784) (by decide +kernel)) (by decide +kernel)⟩
theorem M_L_70 : LkV RL 70 RX5 yX5_restore cX5_restore 1 (some .int) 0 := ⟨⟨Or.inl (gW_t (List.mem_of_getElem? (i := 391) (by decide +kernel)) (by decide +kernel)), gW_t (List.mem_of_getElem? (i := 1) (by decide +kernel)) (by decide +kernel), gW_t (List.mem_of_getElem? (i := 394) (by decide +kernel)) (by decide +kernel), by decide +kernel, by decide +kernel, by decide +kernel⟩, gW_t (List.mem_of_getElem? (i := 392) (by decide +kernel)) (by decide +kernel), gW_t (List.mem_of_getElem? (i := 393) (by decide +kernel)) (by decide +kernel)⟩
theorem M_L_73 : LkV RL 73 RX6 yX6_restore cX6_restore 2 (some .int) 0 := ⟨⟨Or.inl (gW_t (List.mem_of_getElem? (i := 786) (by decide +kernel)) (by decide +kernel)), gW_t (List.mem_of_getElem? (i := 7) (by decide +kernel)) (by decide +kernel), gW_t (List.mem_of_getElem? (i := 789) (by decide +kernel)) (by decide +kernel), by decide +kernel, by decide +kernel, by decide +kernel⟩, gW_t (List.mem_of_getElem? (i := 787) (by decide +kernel)) (by decide +kernel), gW_t (List.mem_of_getElem? (i := 788) (by decide +kernel)) (by decide +kernel)⟩
theorem M_L_74 : LkV RL 74 RX5 yX5_line cX5_line 3 (some .int) 2 := ⟨⟨Or.inl (gW_t (List.mem_of_getElem? (i := 395) (by decide +kernel)) (by decide +kernel)), gW_t (List.mem_of_getElem? (i := 1) (by decide +kernel)) (by decide +kernel), gW_t (List.mem_of_getElem? (i := 398) (by decide +kernel)) (by decide +kernel), by decide +kernel, by decide +kernel, by decide +kernel⟩, gW_t (List.mem_of_getElem? (i := 396) (by decide +kernel)) (by decide +kernel), gW_t (List.mem_of_getElem? (i := 397) (by decide +kernel)) (by decide +kernel)⟩
theorem M_L_77 : LkV RL 77 RX6 yX6_line cX6_line 5 (some .int) 2 := ⟨⟨Or.inl (gW_t (List.mem_of_getElem? (i := 790) (by decide +kernel)) (by decide +kernel)), gW_t (List.mem_of_getElem? (i := 7) (by decide +kernel)) (by decide +kernel), gW_t (List.mem_of_getElem? (i := 793) (by decide +kernel)) (by decide +kernel), by decide +kernel, by decide +kernel, by decide +kernel⟩, gW_t (List.mem_of_getElem? (i := 791) (by decide +kernel)) (by decide +kernel), gW_t (List.mem_of_getElem? (i := 792) (by decide +kernel)) (by decide +kernel)⟩
theorem M_L_78 : LkV RL 78 RX5 yX5_bit cX5_bit 3 (some .int) 2 := ⟨⟨Or.inl (gW_t (List.mem_of_getElem? (i := 519) (by decide +kernel)) (by decide +kernel)), gW_t (List.mem_of_getElem? (i := 1) (by decide +kernel)) (by decide +kernel), gW_t (List.mem_of_getElem? (i := 522) (by decide +kernel)) (by decide +kernel), by decide +kernel, by decide +kernel, by decide +kernel⟩, gW_t (List.mem_of_getElem? (i := 520) (by decide +kernel)) (by decide +kernel), gW_t (List.mem_of_getElem? (i := 521) (by decide +kernel)) (by decide +kernel)⟩
theorem M_L_81 : LkV RL 81 RX6 yX6_bit cX6_bit 3 (some .int) 2 := ⟨⟨Or.inl (gW_t (List.mem_of_getElem? (i := 835) (by decide +kernel)) (by decide +kernel)), gW_t (List.mem_of_getElem? (i := 7) (by decide +kernel)) (by decide +kernel), gW_t (List.mem_of_getElem? (i := 838) (by decide +kernel)) (by decide +kernel), by decide +kernel, by decide +kernel, by decide +kernel⟩, gW_t (List.mem_of_getElem? (i := 836) (by decide +kernel)) (by decide +kernel), gW_t (List.mem_of_getElem? (i := 837) (by decide +kernel)) (by decide +kernel)⟩
theorem M_L_82 : LkV RL 82 RX5 yX5_overlap cX5_overlap 9 (some .int) 2 := ⟨⟨Or.inl (gW_t (List.mem_of_getElem? (i := 527) (by decide +kernel)) (by decide +kernel)), gW_t (List.mem_of_getElem? (i := 1) (by decide +kernel)) (by decide +kernel), gW_t (List.mem_of_getElem? (i := 530) (by decide +kernel)) (by decide +kernel), by decide +kernel, by decide +kernel, by decide +kernel⟩, gW_t (List.mem_of_getElem? (i := 528) (by decide +kernel)) (by decide +kernel), gW_t (List.mem_of_getElem? (i := 529) (by decide +kernel)) (by decide +kernel)⟩
theorem M_L_85 : LkV RL 85 RX6 yX6_overlap cX6_overlap 8 (some .int) 2 := ⟨⟨Or.inl (gW_t (List.mem_of_getElem? (i := 840) (by decide +kernel)) (by decide +kernel)), gW_t (List.mem_of_getElem? (i := 7) (by decide +kernel)) (by decide +kernel), gW_t (List.mem_of_getElem? (i := 843) (by decide +kernel)) (by decide +kernel), by decide +kernel, by decide +kernel, by decide +kernel⟩, gW_t (List.mem_of_getElem? (i := 841) (by decide +kernel)) (by decide +kernel), gW_t (List.mem_of_getElem? (i := 842) (by decide +kernel)) (by decide +kernel)⟩
theorem M_L_86 : LkV RL 86 RX5 yX5_errorAt cX5_errorAt 3 (some .int) 2 := ⟨⟨Or.inl (gW_t (List.mem_of_getElem? (i := 534) (by decide +kernel)) (by decide +kernel)), gW_t (List.mem_of_getElem? (i := 1) (by decide +kernel)) (by decide +kernel), gW_t (List.mem_of_getElem? (i := 537) (by decide +kernel)) (by decide +kernel), by decide +kernel, by decide +kernel, by decide +kernel⟩, gW_t (List.mem_of_getElem? (i := 535) (by decide +kernel)) (by decide +kernel), gW_t (List.mem_of_getElem? (i := 536) (by decide +kernel)) (by decide +kernel)⟩
theorem M_L_89 : LkV RL 89 RX6 yX6_errorAt cX6_errorAt 3 (some .int) 2 := ⟨⟨Or.inl (gW_t (List.mem_of_getElem? (i := 844) (by decide +kernel)) (by decide +kernel)), gW_t (List.mem_of_getElem? (i := 7) (by decide +kernel)) (by decide +kernel), gW_t (List.mem_of_getElem? (i := 847) (by decide +kernel)) (by decide +kernel), by decide +kernel, by decide +kernel, by decide +kernel⟩, gW_t (List.mem_of_getElem? (i := 845) (by decide +kernel)) (by decide +kernel), gW_t (List.mem_of_getElem? (i := 846) (by decide +kernel)) (by decide +kernel)⟩
theorem M_L_90 : LkV RL 90 RX5 yX5_settles cX5_settles 4 (some .int) 2 := ⟨⟨Or.inl (gW_t (List.mem_of_getElem? (i := 538) (by decide +kernel)) (by decide +kernel)), gW_t (List.mem_of_getElem? (i := 1) (by decide +kernel)) (by decide +kernel), gW_t (List.mem_of_getElem? (i := 541) (by decide +kernel)) (by decide +kernel), by decide +kernel, by decide +kernel, by decide +kernel⟩, gW_t (List.mem_of_getElem? (i := 539) (by decide +kernel)) (by decide +kernel), gW_t (List.mem_of_getElem? (i := 540) (by decide +kernel)) (by decide +kernel)⟩
theorem M_L_93 : LkV RL 93 RX6 yX6_settles cX6_settles 6 (some .int) 2 := ⟨⟨Or.inl (gW_t (List.mem_of_getElem? (i := 852) (by decide +kernel)) (by decide +kernel)), gW_t (List.mem_of_getElem? (i := 7) (by decide +kernel)) (by decide +kernel), gW_t (List.mem_of_getElem? (i := 855) (by decide +kernel)) (by decide +kernel), by decide +kernel, by decide +kernel, by decide +kernel⟩, gW_t (List.mem_of_getElem? (i := 853) (by decide +kernel)) (by decide +kernel), gW_t (List.mem_of_getElem? (i := 854) (by decide +kernel)) (by decide +kernel)⟩
theorem M_L_94 : LkV RL 94 RX5 yX5_bestSeed cX5_bestSeed 8 (some .int) 3 := ⟨⟨Or.inl (gW_t (List.mem_of_getElem? (i := 546) (by decide +kernel)) (by decide +kernel)), gW_t (List.mem_of_getElem? (i := 1) (by decide +kernel)) (by decide +kernel), gW_t (List.mem_of_getElem? (i := 549) (by decide +kernel)) (by decide +kernel), by decide +kernel, by decide +kernel, by decide +kernel⟩, gW_t (List.mem_of_getElem? (i := 547) (by decide +kernel)) (by decide +kernel), gW_t (List.mem_of_getElem? (i := 548) (by decide +kernel)) (by decide +kernel)⟩
theorem M_L_97 : LkV RL 97 RX6 yX6_bestSeed cX6_bestSeed 10 (some .int) 3 := ⟨⟨Or.inl (gW_t (List.mem_of_getElem? (i := 856) (by decide +kernel)) (by decide +kernel)), gW_t (List.mem_of_getElem? (i := 7) (by decide +kernel)) (by decide +kernel), gW_t (List.mem_of_getElem? (i := 859) (by decide +kernel)) (by decide +kernel), by decide +kernel, by decide +kernel, by decide +kernel⟩, gW_t (List.mem_of_getElem? (i := 857) (by decide +kernel)) (by decide +kernel), gW_t (List.mem_of_getElem? (i := 858) (by decide +kernel)) (by decide +kernel)⟩
theorem M_L_98 : LkV RL 98 RX5 yX5_unlike cX5_unlike 4 (some .int) 1 := ⟨⟨Or.inl (gW_t (List.mem_of_getElem? (i := 558) (by decide +kernel)) (by decide +kernel)), gW_t (List.mem_of_getElem? (i := 1) (by decide +kernel)) (by decide +kernel), gW_t (List.mem_of_getElem? (i := 561) (by decide +kernel)) (by decide +kernel), by decide +kernel, by decide +kernel, by decide +kernel⟩, gW_t (List.mem_of_getElem? (i := 559) (by decide +kernel)) (by decide +kernel), gW_t (List.mem_of_getElem? (i := 560) (by decide +kernel)) (by decide +kernel)⟩
theorem M_L_101 : LkV RL 101 RX6 yX6_unlike cX6_unlike 4 (some .int) 1 := ⟨⟨Or.inl (gW_t (List.mem_of_getElem? (i := 860) (by decide +kernel)) (by decide +kernel)), gW_t (List.mem_of_getElem? (i := 7) (by decide +kernel)) (by decide +kernel), gW_t (List.mem_of_getElem? (i := 863) (by decide +kernel)) (by decide +kernel), by decide +kernel, by decide +kernel, by decide +kernel⟩, gW_t (List.mem_of_getElem? (i := 861) (by decide +kernel)) (by decide +kernel), gW_t (List.mem_of_getElem? (i := 862) (by decide +kernel)) (by decide +kernel)⟩
theorem M_L_102 : LkV RL 102 RX5 yX5_count cX5_count 2 (some .int) 1 := ⟨⟨Or.inl (gW_t (List.mem_of_getElem? (i := 562) (by decide +kernel)) (by decide +kernel)), gW_t (List.mem_of_getElem? (i := 1) (by decide +kernel)) (by decide +kernel), gW_t (List.mem_of_getElem? (i := 565) (by decide +kernel)) (by decide +kernel), by decide +kernel, by decide +kernel, by decide +kernel⟩, gW_t (List.mem_of_getElem? (i := 563) (by decide +kernel)) (by decide +kernel), gW_t (List.mem_of_getElem? (i := 564) (by decide +kernel)) (by decide +kernel)⟩
theorem M_L_105 : LkV RL 105 RX6 yX6_count cX6_count 2 (some .int) 1 := ⟨⟨Or.inl (gW_t (List.mem_of_getElem? (i := 864) (by decide +kernel)) (by decide +kernel)), gW_t (List.mem_of_getElem? (i := 7) (by decide +kernel)) (by decide +kernel), gW_t (List.mem_of_getElem? (i := 867) (by decide +kernel)) (by decide +kernel), by decide +kernel, by decide +kernel, by decide +kernel⟩, gW_t (List.mem_of_getElem? (i := 865) (by decide +kernel)) (by decide +kernel), gW_t (List.mem_of_getElem? (i := 866) (by decide +kernel)) (by decide +kernel)⟩
end
section
section LKS
variable {p : Program} {l : Launch} {e : Env} {R : Room} {s : State} {m : MethodId} {args : Array Value} {below : List Frame} {meth : Method} {co : Code} {H : Heap} {locs : List Loc} {cells slots : Nat} {Q : State → Prop}
variable {cc : ByteArray} {pc : Nat} {ls : Array Slot} {rest st : List Value} {E : EV} {u : SS} {nL : Nat} {own : String} {ret : Option FieldType}
theorem wB (E : EV) (u : SS) {b : Nat} (hb : b < 7) : (wl E u)[10 + 3 * b]? = some (eA E (10 + 3 * b), .inr (0, [.int (u.1 1 b), .int (u.1 2 b), .ref (eA E (11 + 3 * b)), .ref (eA E (12 + 3 * b))])) := by
  match b, hb with
  | 0, _ => rfl
  | 1, _ => rfl
  | 2, _ => rfl
  | 3, _ => rfl
  | 4, _ => rfl
  | 5, _ => rfl
  | 6, _ => rfl
  | n + 7, h => exact absurd h (by omega)
theorem sB0 (E : EV) (u : SS) {b : Nat} (hb : b < 7) (v : Int32) : (wl E u).set (10 + 3 * b) (eA E (10 + 3 * b), .inr (0, ([.int (u.1 1 b), .int (u.1 2 b), .ref (eA E (11 + 3 * b)), .ref (eA E (12 + 3 * b))] : List Value).set 0 (.int v))) = wl E (up u.1 1 b v, u.2) := by
  match b, hb with
  | 0, _ => rfl
  | 1, _ => rfl
  | 2, _ => rfl
  | 3, _ => rfl
  | 4, _ => rfl
  | 5, _ => rfl
  | 6, _ => rfl
  | n + 7, h => exact absurd h (by omega)
theorem sB1 (E : EV) (u : SS) {b : Nat} (hb : b < 7) (v : Int32) : (wl E u).set (10 + 3 * b) (eA E (10 + 3 * b), .inr (0, ([.int (u.1 1 b), .int (u.1 2 b), .ref (eA E (11 + 3 * b)), .ref (eA E (12 + 3 * b))] : List Value).set 1 (.int v))) = wl E (up u.1 2 b v, u.2) := by
  match b, hb with
  | 0, _ => rfl
  | 1, _ => rfl
  | 2, _ => rfl
  | 3, _ => rfl
  | 4, _ => rfl
  | 5, _ => rfl
  | 6, _ => rfl
  | n + 7, h => exact absurd h (by omega)
theorem gX0_length (F : Fx E p s m args meth co cc nL own ret) (hI : Iv E s H locs u) {idx b : Nat} (hb : b < 7) (hL : FLk own idx "ShareStreams$Bench" "length" "I") (hdg : decode cc pc = .ok (.getfield idx, 3)) (kk : W p l e R s m args below meth co H locs cells slots Q (F0 m (pc + 3) ls (.int (u.1 1 b) :: rest))) : W p l e R s m args below meth co H locs cells slots Q (F0 m pc ls (.ref (eA E (10 + 3 * b)) :: rest)) := fG F hI (10 + 3 * b) (wB E u hb) rfl inlX0 0 (by decide) hL rfl rfl hdg kk
theorem pX0_length (F : Fx E p s m args meth co cc nL own ret) (hI : Iv E s H locs u) {idx b : Nat} {v : Int32} (hb : b < 7) (hL : FLk own idx "ShareStreams$Bench" "length" "I") (hdg : decode cc pc = .ok (.putfield idx, 3)) (kk : ∀ (H1 : Heap) (locs1 : List Loc), Iv E s H1 locs1 (up u.1 1 b v, u.2) → W p l e R s m args below meth co H1 locs1 cells slots Q (F0 m (pc + 3) ls (rest))) : W p l e R s m args below meth co H locs cells slots Q (F0 m pc ls (.int v :: .ref (eA E (10 + 3 * b)) :: rest)) := fP F hI (10 + 3 * b) (wB E u hb) rfl inlX0 tyX0 tyX0_ok nmX0 0 (by decide) hL rfl rfl rfl rfl (Nat.le_of_ble_eq_true rfl) (sB0 E u hb v) hdg kk
theorem gX0_size (F : Fx E p s m args meth co cc nL own ret) (hI : Iv E s H locs u) {idx b : Nat} (hb : b < 7) (hL : FLk own idx "ShareStreams$Bench" "size" "I") (hdg : decode cc pc = .ok (.getfield idx, 3)) (kk : W p l e R s m args below meth co H locs cells slots Q (F0 m (pc + 3) ls (.int (u.1 2 b) :: rest))) : W p l e R s m args below meth co H locs cells slots Q (F0 m pc ls (.ref (eA E (10 + 3 * b)) :: rest)) := fG F hI (10 + 3 * b) (wB E u hb) rfl inlX0 1 (by decide) hL rfl rfl hdg kk
theorem pX0_size (F : Fx E p s m args meth co cc nL own ret) (hI : Iv E s H locs u) {idx b : Nat} {v : Int32} (hb : b < 7) (hL : FLk own idx "ShareStreams$Bench" "size" "I") (hdg : decode cc pc = .ok (.putfield idx, 3)) (kk : ∀ (H1 : Heap) (locs1 : List Loc), Iv E s H1 locs1 (up u.1 2 b v, u.2) → W p l e R s m args below meth co H1 locs1 cells slots Q (F0 m (pc + 3) ls (rest))) : W p l e R s m args below meth co H locs cells slots Q (F0 m pc ls (.int v :: .ref (eA E (10 + 3 * b)) :: rest)) := fP F hI (10 + 3 * b) (wB E u hb) rfl inlX0 tyX0 tyX0_ok nmX0 1 (by decide) hL rfl rfl rfl rfl (Nat.le_of_ble_eq_true rfl) (sB1 E u hb v) hdg kk
theorem gX0_kinds (F : Fx E p s m args meth co cc nL own ret) (hI : Iv E s H locs u) {idx b : Nat} (hb : b < 7) (hL : FLk own idx "ShareStreams$Bench" "kinds" "[I") (hdg : decode cc pc = .ok (.getfield idx, 3)) (kk : W p l e R s m args below meth co H locs cells slots Q (F0 m (pc + 3) ls (.ref (eA E (11 + 3 * b)) :: rest))) : W p l e R s m args below meth co H locs cells slots Q (F0 m pc ls (.ref (eA E (10 + 3 * b)) :: rest)) := fG F hI (10 + 3 * b) (wB E u hb) rfl inlX0 2 (by decide) hL rfl rfl hdg kk
theorem gX0_numbers (F : Fx E p s m args meth co cc nL own ret) (hI : Iv E s H locs u) {idx b : Nat} (hb : b < 7) (hL : FLk own idx "ShareStreams$Bench" "numbers" "[I") (hdg : decode cc pc = .ok (.getfield idx, 3)) (kk : W p l e R s m args below meth co H locs cells slots Q (F0 m (pc + 3) ls (.ref (eA E (12 + 3 * b)) :: rest))) : W p l e R s m args below meth co H locs cells slots Q (F0 m pc ls (.ref (eA E (10 + 3 * b)) :: rest)) := fG F hI (10 + 3 * b) (wB E u hb) rfl inlX0 3 (by decide) hL rfl rfl hdg kk
theorem wX1 (E : EV) (u : SS) : (wl E u)[3]? = some (eA E 3, .inr (1, [.ref (eA E 4), .int (u.1 0 3), .int (u.1 0 4)])) := rfl
theorem gX1_characters (F : Fx E p s m args meth co cc nL own ret) (hI : Iv E s H locs u) {idx : Nat} (hL : FLk own idx "ShareStreams$CircuitText" "characters" "[C") (hdg : decode cc pc = .ok (.getfield idx, 3)) (kk : W p l e R s m args below meth co H locs cells slots Q (F0 m (pc + 3) ls (.ref (eA E 4) :: rest))) : W p l e R s m args below meth co H locs cells slots Q (F0 m pc ls (.ref (eA E 3) :: rest)) := fG F hI 3 (wX1 E u) rfl inlX1 0 (by decide) hL rfl rfl hdg kk
theorem gX1_size (F : Fx E p s m args meth co cc nL own ret) (hI : Iv E s H locs u) {idx : Nat} (hL : FLk own idx "ShareStreams$CircuitText" "size" "I") (hdg : decode cc pc = .ok (.getfield idx, 3)) (kk : W p l e R s m args below meth co H locs cells slots Q (F0 m (pc + 3) ls (.int (u.1 0 3) :: rest))) : W p l e R s m args below meth co H locs cells slots Q (F0 m pc ls (.ref (eA E 3) :: rest)) := fG F hI 3 (wX1 E u) rfl inlX1 1 (by decide) hL rfl rfl hdg kk
theorem sX1_size (E : EV) (u : SS) (v : Int32) : (wl E u).set 3 (eA E 3, .inr (1, ([.ref (eA E 4), .int (u.1 0 3), .int (u.1 0 4)] : List Value).set 1 (.int v))) = wl E (up u.1 0 3 v, u.2) := rfl
theorem pX1_size (F : Fx E p s m args meth co cc nL own ret) (hI : Iv E s H locs u) {idx : Nat} {v : Int32} (hL : FLk own idx "ShareStreams$CircuitText" "size" "I") (hdg : decode cc pc = .ok (.putfield idx, 3)) (kk : ∀ (H1 : Heap) (locs1 : List Loc), Iv E s H1 locs1 (up u.1 0 3 v, u.2) → W p l e R s m args below meth co H1 locs1 cells slots Q (F0 m (pc + 3) ls (rest))) : W p l e R s m args below meth co H locs cells slots Q (F0 m pc ls (.int v :: .ref (eA E 3) :: rest)) := fP F hI 3 (wX1 E u) rfl inlX1 tyX1 tyX1_ok nmX1 1 (by decide) hL rfl rfl rfl rfl (Nat.le_of_ble_eq_true rfl) (sX1_size E u v) hdg kk
theorem gX1_place (F : Fx E p s m args meth co cc nL own ret) (hI : Iv E s H locs u) {idx : Nat} (hL : FLk own idx "ShareStreams$CircuitText" "place" "I") (hdg : decode cc pc = .ok (.getfield idx, 3)) (kk : W p l e R s m args below meth co H locs cells slots Q (F0 m (pc + 3) ls (.int (u.1 0 4) :: rest))) : W p l e R s m args below meth co H locs cells slots Q (F0 m pc ls (.ref (eA E 3) :: rest)) := fG F hI 3 (wX1 E u) rfl inlX1 2 (by decide) hL rfl rfl hdg kk
theorem sX1_place (E : EV) (u : SS) (v : Int32) : (wl E u).set 3 (eA E 3, .inr (1, ([.ref (eA E 4), .int (u.1 0 3), .int (u.1 0 4)] : List Value).set 2 (.int v))) = wl E (up u.1 0 4 v, u.2) := rfl
theorem pX1_place (F : Fx E p s m args meth co cc nL own ret) (hI : Iv E s H locs u) {idx : Nat} {v : Int32} (hL : FLk own idx "ShareStreams$CircuitText" "place" "I") (hdg : decode cc pc = .ok (.putfield idx, 3)) (kk : ∀ (H1 : Heap) (locs1 : List Loc), Iv E s H1 locs1 (up u.1 0 4 v, u.2) → W p l e R s m args below meth co H1 locs1 cells slots Q (F0 m (pc + 3) ls (rest))) : W p l e R s m args below meth co H locs cells slots Q (F0 m pc ls (.int v :: .ref (eA E 3) :: rest)) := fP F hI 3 (wX1 E u) rfl inlX1 tyX1 tyX1_ok nmX1 2 (by decide) hL rfl rfl rfl rfl (Nat.le_of_ble_eq_true rfl) (sX1_place E u v) hdg kk
theorem wX2 (E : EV) (u : SS) : (wl E u)[5]? = some (eA E 5, .inr (2, [.ref (eA E 6), .ref (eA E 7), .ref (eA E 8)])) := rfl
theorem gX2_exactShares (F : Fx E p s m args meth co cc nL own ret) (hI : Iv E s H locs u) {idx : Nat} (hL : FLk own idx "ShareStreams$Figures" "exactShares" "[I") (hdg : decode cc pc = .ok (.getfield idx, 3)) (kk : W p l e R s m args below meth co H locs cells slots Q (F0 m (pc + 3) ls (.ref (eA E 6) :: rest))) : W p l e R s m args below meth co H locs cells slots Q (F0 m pc ls (.ref (eA E 5) :: rest)) := fG F hI 5 (wX2 E u) rfl inlX2 0 (by decide) hL rfl rfl hdg kk
theorem gX2_depths (F : Fx E p s m args meth co cc nL own ret) (hI : Iv E s H locs u) {idx : Nat} (hL : FLk own idx "ShareStreams$Figures" "depths" "[I") (hdg : decode cc pc = .ok (.getfield idx, 3)) (kk : W p l e R s m args below meth co H locs cells slots Q (F0 m (pc + 3) ls (.ref (eA E 7) :: rest))) : W p l e R s m args below meth co H locs cells slots Q (F0 m pc ls (.ref (eA E 5) :: rest)) := fG F hI 5 (wX2 E u) rfl inlX2 1 (by decide) hL rfl rfl hdg kk
theorem gX2_origins (F : Fx E p s m args meth co cc nL own ret) (hI : Iv E s H locs u) {idx : Nat} (hL : FLk own idx "ShareStreams$Figures" "origins" "[I") (hdg : decode cc pc = .ok (.getfield idx, 3)) (kk : W p l e R s m args below meth co H locs cells slots Q (F0 m (pc + 3) ls (.ref (eA E 8) :: rest))) : W p l e R s m args below meth co H locs cells slots Q (F0 m pc ls (.ref (eA E 5) :: rest)) := fG F hI 5 (wX2 E u) rfl inlX2 2 (by decide) hL rfl rfl hdg kk
theorem wX3 (E : EV) (u : SS) : (wl E u)[1]? = some (eA E 1, .inr (3, [.ref (eA E 2), .int (u.1 0 1), .int (u.1 0 2)])) := rfl
theorem gX3_states (F : Fx E p s m args meth co cc nL own ret) (hI : Iv E s H locs u) {idx : Nat} (hL : FLk own idx "ShareStreams$History" "states" "[LShareStreams$Bench;") (hdg : decode cc pc = .ok (.getfield idx, 3)) (kk : W p l e R s m args below meth co H locs cells slots Q (F0 m (pc + 3) ls (.ref (eA E 2) :: rest))) : W p l e R s m args below meth co H locs cells slots Q (F0 m pc ls (.ref (eA E 1) :: rest)) := fG F hI 1 (wX3 E u) rfl inlX3 0 (by decide) hL rfl rfl hdg kk
theorem gX3_oldest (F : Fx E p s m args meth co cc nL own ret) (hI : Iv E s H locs u) {idx : Nat} (hL : FLk own idx "ShareStreams$History" "oldest" "I") (hdg : decode cc pc = .ok (.getfield idx, 3)) (kk : W p l e R s m args below meth co H locs cells slots Q (F0 m (pc + 3) ls (.int (u.1 0 1) :: rest))) : W p l e R s m args below meth co H locs cells slots Q (F0 m pc ls (.ref (eA E 1) :: rest)) := fG F hI 1 (wX3 E u) rfl inlX3 1 (by decide) hL rfl rfl hdg kk
theorem sX3_oldest (E : EV) (u : SS) (v : Int32) : (wl E u).set 1 (eA E 1, .inr (3, ([.ref (eA E 2), .int (u.1 0 1), .int (u.1 0 2)] : List Value).set 1 (.int v))) = wl E (up u.1 0 1 v, u.2) := rfl
theorem pX3_oldest (F : Fx E p s m args meth co cc nL own ret) (hI : Iv E s H locs u) {idx : Nat} {v : Int32} (hL : FLk own idx "ShareStreams$History" "oldest" "I") (hdg : decode cc pc = .ok (.putfield idx, 3)) (kk : ∀ (H1 : Heap) (locs1 : List Loc), Iv E s H1 locs1 (up u.1 0 1 v, u.2) → W p l e R s m args below meth co H1 locs1 cells slots Q (F0 m (pc + 3) ls (rest))) : W p l e R s m args below meth co H locs cells slots Q (F0 m pc ls (.int v :: .ref (eA E 1) :: rest)) := fP F hI 1 (wX3 E u) rfl inlX3 tyX3 tyX3_ok nmX3 1 (by decide) hL rfl rfl rfl rfl (Nat.le_of_ble_eq_true rfl) (sX3_oldest E u v) hdg kk
theorem gX3_size (F : Fx E p s m args meth co cc nL own ret) (hI : Iv E s H locs u) {idx : Nat} (hL : FLk own idx "ShareStreams$History" "size" "I") (hdg : decode cc pc = .ok (.getfield idx, 3)) (kk : W p l e R s m args below meth co H locs cells slots Q (F0 m (pc + 3) ls (.int (u.1 0 2) :: rest))) : W p l e R s m args below meth co H locs cells slots Q (F0 m pc ls (.ref (eA E 1) :: rest)) := fG F hI 1 (wX3 E u) rfl inlX3 2 (by decide) hL rfl rfl hdg kk
theorem sX3_size (E : EV) (u : SS) (v : Int32) : (wl E u).set 1 (eA E 1, .inr (3, ([.ref (eA E 2), .int (u.1 0 1), .int (u.1 0 2)] : List Value).set 2 (.int v))) = wl E (up u.1 0 2 v, u.2) := rfl
theorem pX3_size (F : Fx E p s m args meth co cc nL own ret) (hI : Iv E s H locs u) {idx : Nat} {v : Int32} (hL : FLk own idx "ShareStreams$History" "size" "I") (hdg : decode cc pc = .ok (.putfield idx, 3)) (kk : ∀ (H1 : Heap) (locs1 : List Loc), Iv E s H1 locs1 (up u.1 0 2 v, u.2) → W p l e R s m args below meth co H1 locs1 cells slots Q (F0 m (pc + 3) ls (rest))) : W p l e R s m args below meth co H locs cells slots Q (F0 m pc ls (.int v :: .ref (eA E 1) :: rest)) := fP F hI 1 (wX3 E u) rfl inlX3 tyX3 tyX3_ok nmX3 2 (by decide) hL rfl rfl rfl rfl (Nat.le_of_ble_eq_true rfl) (sX3_size E u v) hdg kk
theorem wX4 (E : EV) (u : SS) : (wl E u)[9]? = some (eA E 9, .inr (4, [.ref (eA E 31)])) := rfl
theorem gX4_rows (F : Fx E p s m args meth co cc nL own ret) (hI : Iv E s H locs u) {idx : Nat} (hL : FLk own idx "ShareStreams$Streams" "rows" "[[J") (hdg : decode cc pc = .ok (.getfield idx, 3)) (kk : W p l e R s m args below meth co H locs cells slots Q (F0 m (pc + 3) ls (.ref (eA E 31) :: rest))) : W p l e R s m args below meth co H locs cells slots Q (F0 m pc ls (.ref (eA E 9) :: rest)) := fG F hI 9 (wX4 E u) rfl inlX4 0 (by decide) hL rfl rfl hdg kk
theorem wX5 (E : EV) (u : SS) : (wl E u)[0]? = some (eA E 0, .inr (5, [.ref (eA E 10), .ref (eA E 13), .int (u.1 0 0), .ref (eA E 16), .ref (eA E 1), .ref (eA E 3), .ref (eA E 5), .ref (eA E 9)])) := rfl
theorem gX5_bench (F : Fx E p s m args meth co cc nL own ret) (hI : Iv E s H locs u) {idx : Nat} (hL : FLk own idx "ShareStreams" "bench" "LShareStreams$Bench;") (hdg : decode cc pc = .ok (.getfield idx, 3)) (kk : W p l e R s m args below meth co H locs cells slots Q (F0 m (pc + 3) ls (.ref (eA E 10) :: rest))) : W p l e R s m args below meth co H locs cells slots Q (F0 m pc ls (.ref (eA E 0) :: rest)) := fG F hI 0 (wX5 E u) rfl inlX5 0 (by decide) hL rfl rfl hdg kk
theorem gX5_snapshot (F : Fx E p s m args meth co cc nL own ret) (hI : Iv E s H locs u) {idx : Nat} (hL : FLk own idx "ShareStreams" "snapshot" "LShareStreams$Bench;") (hdg : decode cc pc = .ok (.getfield idx, 3)) (kk : W p l e R s m args below meth co H locs cells slots Q (F0 m (pc + 3) ls (.ref (eA E 13) :: rest))) : W p l e R s m args below meth co H locs cells slots Q (F0 m pc ls (.ref (eA E 0) :: rest)) := fG F hI 0 (wX5 E u) rfl inlX5 1 (by decide) hL rfl rfl hdg kk
theorem gX5_hasSnapshot (F : Fx E p s m args meth co cc nL own ret) (hI : Iv E s H locs u) {idx : Nat} (hL : FLk own idx "ShareStreams" "hasSnapshot" "Z") (hdg : decode cc pc = .ok (.getfield idx, 3)) (kk : W p l e R s m args below meth co H locs cells slots Q (F0 m (pc + 3) ls (.int (u.1 0 0) :: rest))) : W p l e R s m args below meth co H locs cells slots Q (F0 m pc ls (.ref (eA E 0) :: rest)) := fG F hI 0 (wX5 E u) rfl inlX5 2 (by decide) hL rfl rfl hdg kk
theorem sX5_hasSnapshot (E : EV) (u : SS) (v : Int32) : (wl E u).set 0 (eA E 0, .inr (5, ([.ref (eA E 10), .ref (eA E 13), .int (u.1 0 0), .ref (eA E 16), .ref (eA E 1), .ref (eA E 3), .ref (eA E 5), .ref (eA E 9)] : List Value).set 2 (.int v))) = wl E (up u.1 0 0 v, u.2) := rfl
theorem pX5_hasSnapshot (F : Fx E p s m args meth co cc nL own ret) (hI : Iv E s H locs u) {idx : Nat} {v : Int32} (hz : narrow .boolean (.int v) = .int v) (hz2 : fits .boolean (.int v) = true) (hL : FLk own idx "ShareStreams" "hasSnapshot" "Z") (hdg : decode cc pc = .ok (.putfield idx, 3)) (kk : ∀ (H1 : Heap) (locs1 : List Loc), Iv E s H1 locs1 (up u.1 0 0 v, u.2) → W p l e R s m args below meth co H1 locs1 cells slots Q (F0 m (pc + 3) ls (rest))) : W p l e R s m args below meth co H locs cells slots Q (F0 m pc ls (.int v :: .ref (eA E 0) :: rest)) := fP F hI 0 (wX5 E u) rfl inlX5 tyX5 tyX5_ok nmX5 2 (by decide) hL rfl rfl hz hz2 (Nat.le_of_ble_eq_true rfl) (sX5_hasSnapshot E u v) hdg kk
theorem gX5_spare (F : Fx E p s m args meth co cc nL own ret) (hI : Iv E s H locs u) {idx : Nat} (hL : FLk own idx "ShareStreams" "spare" "LShareStreams$Bench;") (hdg : decode cc pc = .ok (.getfield idx, 3)) (kk : W p l e R s m args below meth co H locs cells slots Q (F0 m (pc + 3) ls (.ref (eA E 16) :: rest))) : W p l e R s m args below meth co H locs cells slots Q (F0 m pc ls (.ref (eA E 0) :: rest)) := fG F hI 0 (wX5 E u) rfl inlX5 3 (by decide) hL rfl rfl hdg kk
theorem gX5_history (F : Fx E p s m args meth co cc nL own ret) (hI : Iv E s H locs u) {idx : Nat} (hL : FLk own idx "ShareStreams" "history" "LShareStreams$History;") (hdg : decode cc pc = .ok (.getfield idx, 3)) (kk : W p l e R s m args below meth co H locs cells slots Q (F0 m (pc + 3) ls (.ref (eA E 1) :: rest))) : W p l e R s m args below meth co H locs cells slots Q (F0 m pc ls (.ref (eA E 0) :: rest)) := fG F hI 0 (wX5 E u) rfl inlX5 4 (by decide) hL rfl rfl hdg kk
theorem gX5_text (F : Fx E p s m args meth co cc nL own ret) (hI : Iv E s H locs u) {idx : Nat} (hL : FLk own idx "ShareStreams" "text" "LShareStreams$CircuitText;") (hdg : decode cc pc = .ok (.getfield idx, 3)) (kk : W p l e R s m args below meth co H locs cells slots Q (F0 m (pc + 3) ls (.ref (eA E 3) :: rest))) : W p l e R s m args below meth co H locs cells slots Q (F0 m pc ls (.ref (eA E 0) :: rest)) := fG F hI 0 (wX5 E u) rfl inlX5 5 (by decide) hL rfl rfl hdg kk
theorem gX5_figures (F : Fx E p s m args meth co cc nL own ret) (hI : Iv E s H locs u) {idx : Nat} (hL : FLk own idx "ShareStreams" "figures" "LShareStreams$Figures;") (hdg : decode cc pc = .ok (.getfield idx, 3)) (kk : W p l e R s m args below meth co H locs cells slots Q (F0 m (pc + 3) ls (.ref (eA E 5) :: rest))) : W p l e R s m args below meth co H locs cells slots Q (F0 m pc ls (.ref (eA E 0) :: rest)) := fG F hI 0 (wX5 E u) rfl inlX5 6 (by decide) hL rfl rfl hdg kk
theorem gX5_streams (F : Fx E p s m args meth co cc nL own ret) (hI : Iv E s H locs u) {idx : Nat} (hL : FLk own idx "ShareStreams" "streams" "LShareStreams$Streams;") (hdg : decode cc pc = .ok (.getfield idx, 3)) (kk : W p l e R s m args below meth co H locs cells slots Q (F0 m (pc + 3) ls (.ref (eA E 9) :: rest))) : W p l e R s m args below meth co H locs cells slots Q (F0 m pc ls (.ref (eA E 0) :: rest)) := fG F hI 0 (wX5 E u) rfl inlX5 7 (by decide) hL rfl rfl hdg kk
theorem wX6 (E : EV) (u : SS) : (wl E u)[48]? = some (eA E 48, .inr (6, [.ref (eA E 49), .ref (eA E 50), .ref (eA E 51), .int (u.1 40 0), .ref (eA E 52), .int (u.1 40 1), .ref (eA E 53), .ref (eA E 54), .ref (eA E 55), .ref (eA E 56), .ref (eA E 57), .int (u.1 40 2), .int (u.1 40 3), .ref (eA E 58), .int (u.1 40 4), .int (u.1 40 5), .ref (eA E 59), .ref (eA E 60)])) := rfl
theorem gX6_all (F : Fx E p s m args meth co cc nL own ret) (hI : Iv E s H locs u) {idx : Nat} (hL : FLk own idx "ShareStreamsModel" "all" "[I") (hdg : decode cc pc = .ok (.getfield idx, 3)) (kk : W p l e R s m args below meth co H locs cells slots Q (F0 m (pc + 3) ls (.ref (eA E 49) :: rest))) : W p l e R s m args below meth co H locs cells slots Q (F0 m pc ls (.ref (eA E 48) :: rest)) := fG F hI 48 (wX6 E u) rfl inlX6 0 (by decide) hL rfl rfl hdg kk
theorem gX6_kept (F : Fx E p s m args meth co cc nL own ret) (hI : Iv E s H locs u) {idx : Nat} (hL : FLk own idx "ShareStreamsModel" "kept" "[I") (hdg : decode cc pc = .ok (.getfield idx, 3)) (kk : W p l e R s m args below meth co H locs cells slots Q (F0 m (pc + 3) ls (.ref (eA E 50) :: rest))) : W p l e R s m args below meth co H locs cells slots Q (F0 m pc ls (.ref (eA E 48) :: rest)) := fG F hI 48 (wX6 E u) rfl inlX6 1 (by decide) hL rfl rfl hdg kk
theorem gX6_history (F : Fx E p s m args meth co cc nL own ret) (hI : Iv E s H locs u) {idx : Nat} (hL : FLk own idx "ShareStreamsModel" "history" "[I") (hdg : decode cc pc = .ok (.getfield idx, 3)) (kk : W p l e R s m args below meth co H locs cells slots Q (F0 m (pc + 3) ls (.ref (eA E 51) :: rest))) : W p l e R s m args below meth co H locs cells slots Q (F0 m pc ls (.ref (eA E 48) :: rest)) := fG F hI 48 (wX6 E u) rfl inlX6 2 (by decide) hL rfl rfl hdg kk
theorem gX6_historyLong (F : Fx E p s m args meth co cc nL own ret) (hI : Iv E s H locs u) {idx : Nat} (hL : FLk own idx "ShareStreamsModel" "historyLong" "I") (hdg : decode cc pc = .ok (.getfield idx, 3)) (kk : W p l e R s m args below meth co H locs cells slots Q (F0 m (pc + 3) ls (.int (u.1 40 0) :: rest))) : W p l e R s m args below meth co H locs cells slots Q (F0 m pc ls (.ref (eA E 48) :: rest)) := fG F hI 48 (wX6 E u) rfl inlX6 3 (by decide) hL rfl rfl hdg kk
theorem sX6_historyLong (E : EV) (u : SS) (v : Int32) : (wl E u).set 48 (eA E 48, .inr (6, ([.ref (eA E 49), .ref (eA E 50), .ref (eA E 51), .int (u.1 40 0), .ref (eA E 52), .int (u.1 40 1), .ref (eA E 53), .ref (eA E 54), .ref (eA E 55), .ref (eA E 56), .ref (eA E 57), .int (u.1 40 2), .int (u.1 40 3), .ref (eA E 58), .int (u.1 40 4), .int (u.1 40 5), .ref (eA E 59), .ref (eA E 60)] : List Value).set 3 (.int v))) = wl E (up u.1 40 0 v, u.2) := rfl
theorem pX6_historyLong (F : Fx E p s m args meth co cc nL own ret) (hI : Iv E s H locs u) {idx : Nat} {v : Int32} (hL : FLk own idx "ShareStreamsModel" "historyLong" "I") (hdg : decode cc pc = .ok (.putfield idx, 3)) (kk : ∀ (H1 : Heap) (locs1 : List Loc), Iv E s H1 locs1 (up u.1 40 0 v, u.2) → W p l e R s m args below meth co H1 locs1 cells slots Q (F0 m (pc + 3) ls (rest))) : W p l e R s m args below meth co H locs cells slots Q (F0 m pc ls (.int v :: .ref (eA E 48) :: rest)) := fP F hI 48 (wX6 E u) rfl inlX6 tyX6 tyX6_ok nmX6 3 (by decide) hL rfl rfl rfl rfl (Nat.le_of_ble_eq_true rfl) (sX6_historyLong E u v) hdg kk
theorem gX6_snapshot (F : Fx E p s m args meth co cc nL own ret) (hI : Iv E s H locs u) {idx : Nat} (hL : FLk own idx "ShareStreamsModel" "snapshot" "[I") (hdg : decode cc pc = .ok (.getfield idx, 3)) (kk : W p l e R s m args below meth co H locs cells slots Q (F0 m (pc + 3) ls (.ref (eA E 52) :: rest))) : W p l e R s m args below meth co H locs cells slots Q (F0 m pc ls (.ref (eA E 48) :: rest)) := fG F hI 48 (wX6 E u) rfl inlX6 4 (by decide) hL rfl rfl hdg kk
theorem gX6_isTaken (F : Fx E p s m args meth co cc nL own ret) (hI : Iv E s H locs u) {idx : Nat} (hL : FLk own idx "ShareStreamsModel" "isTaken" "I") (hdg : decode cc pc = .ok (.getfield idx, 3)) (kk : W p l e R s m args below meth co H locs cells slots Q (F0 m (pc + 3) ls (.int (u.1 40 1) :: rest))) : W p l e R s m args below meth co H locs cells slots Q (F0 m pc ls (.ref (eA E 48) :: rest)) := fG F hI 48 (wX6 E u) rfl inlX6 5 (by decide) hL rfl rfl hdg kk
theorem sX6_isTaken (E : EV) (u : SS) (v : Int32) : (wl E u).set 48 (eA E 48, .inr (6, ([.ref (eA E 49), .ref (eA E 50), .ref (eA E 51), .int (u.1 40 0), .ref (eA E 52), .int (u.1 40 1), .ref (eA E 53), .ref (eA E 54), .ref (eA E 55), .ref (eA E 56), .ref (eA E 57), .int (u.1 40 2), .int (u.1 40 3), .ref (eA E 58), .int (u.1 40 4), .int (u.1 40 5), .ref (eA E 59), .ref (eA E 60)] : List Value).set 5 (.int v))) = wl E (up u.1 40 1 v, u.2) := rfl
theorem pX6_isTaken (F : Fx E p s m args meth co cc nL own ret) (hI : Iv E s H locs u) {idx : Nat} {v : Int32} (hL : FLk own idx "ShareStreamsModel" "isTaken" "I") (hdg : decode cc pc = .ok (.putfield idx, 3)) (kk : ∀ (H1 : Heap) (locs1 : List Loc), Iv E s H1 locs1 (up u.1 40 1 v, u.2) → W p l e R s m args below meth co H1 locs1 cells slots Q (F0 m (pc + 3) ls (rest))) : W p l e R s m args below meth co H locs cells slots Q (F0 m pc ls (.int v :: .ref (eA E 48) :: rest)) := fP F hI 48 (wX6 E u) rfl inlX6 tyX6 tyX6_ok nmX6 5 (by decide) hL rfl rfl rfl rfl (Nat.le_of_ble_eq_true rfl) (sX6_isTaken E u v) hdg kk
theorem gX6_words (F : Fx E p s m args meth co cc nL own ret) (hI : Iv E s H locs u) {idx : Nat} (hL : FLk own idx "ShareStreamsModel" "words" "[J") (hdg : decode cc pc = .ok (.getfield idx, 3)) (kk : W p l e R s m args below meth co H locs cells slots Q (F0 m (pc + 3) ls (.ref (eA E 53) :: rest))) : W p l e R s m args below meth co H locs cells slots Q (F0 m pc ls (.ref (eA E 48) :: rest)) := fG F hI 48 (wX6 E u) rfl inlX6 6 (by decide) hL rfl rfl hdg kk
theorem gX6_bits (F : Fx E p s m args meth co cc nL own ret) (hI : Iv E s H locs u) {idx : Nat} (hL : FLk own idx "ShareStreamsModel" "bits" "[I") (hdg : decode cc pc = .ok (.getfield idx, 3)) (kk : W p l e R s m args below meth co H locs cells slots Q (F0 m (pc + 3) ls (.ref (eA E 54) :: rest))) : W p l e R s m args below meth co H locs cells slots Q (F0 m pc ls (.ref (eA E 48) :: rest)) := fG F hI 48 (wX6 E u) rfl inlX6 7 (by decide) hL rfl rfl hdg kk
theorem gX6_register (F : Fx E p s m args meth co cc nL own ret) (hI : Iv E s H locs u) {idx : Nat} (hL : FLk own idx "ShareStreamsModel" "register" "[I") (hdg : decode cc pc = .ok (.getfield idx, 3)) (kk : W p l e R s m args below meth co H locs cells slots Q (F0 m (pc + 3) ls (.ref (eA E 55) :: rest))) : W p l e R s m args below meth co H locs cells slots Q (F0 m pc ls (.ref (eA E 48) :: rest)) := fG F hI 48 (wX6 E u) rfl inlX6 8 (by decide) hL rfl rfl hdg kk
theorem gX6_exact (F : Fx E p s m args meth co cc nL own ret) (hI : Iv E s H locs u) {idx : Nat} (hL : FLk own idx "ShareStreamsModel" "exact" "[I") (hdg : decode cc pc = .ok (.getfield idx, 3)) (kk : W p l e R s m args below meth co H locs cells slots Q (F0 m (pc + 3) ls (.ref (eA E 56) :: rest))) : W p l e R s m args below meth co H locs cells slots Q (F0 m pc ls (.ref (eA E 48) :: rest)) := fG F hI 48 (wX6 E u) rfl inlX6 9 (by decide) hL rfl rfl hdg kk
theorem gX6_text (F : Fx E p s m args meth co cc nL own ret) (hI : Iv E s H locs u) {idx : Nat} (hL : FLk own idx "ShareStreamsModel" "text" "[I") (hdg : decode cc pc = .ok (.getfield idx, 3)) (kk : W p l e R s m args below meth co H locs cells slots Q (F0 m (pc + 3) ls (.ref (eA E 57) :: rest))) : W p l e R s m args below meth co H locs cells slots Q (F0 m pc ls (.ref (eA E 48) :: rest)) := fG F hI 48 (wX6 E u) rfl inlX6 10 (by decide) hL rfl rfl hdg kk
theorem gX6_textLong (F : Fx E p s m args meth co cc nL own ret) (hI : Iv E s H locs u) {idx : Nat} (hL : FLk own idx "ShareStreamsModel" "textLong" "I") (hdg : decode cc pc = .ok (.getfield idx, 3)) (kk : W p l e R s m args below meth co H locs cells slots Q (F0 m (pc + 3) ls (.int (u.1 40 2) :: rest))) : W p l e R s m args below meth co H locs cells slots Q (F0 m pc ls (.ref (eA E 48) :: rest)) := fG F hI 48 (wX6 E u) rfl inlX6 11 (by decide) hL rfl rfl hdg kk
theorem sX6_textLong (E : EV) (u : SS) (v : Int32) : (wl E u).set 48 (eA E 48, .inr (6, ([.ref (eA E 49), .ref (eA E 50), .ref (eA E 51), .int (u.1 40 0), .ref (eA E 52), .int (u.1 40 1), .ref (eA E 53), .ref (eA E 54), .ref (eA E 55), .ref (eA E 56), .ref (eA E 57), .int (u.1 40 2), .int (u.1 40 3), .ref (eA E 58), .int (u.1 40 4), .int (u.1 40 5), .ref (eA E 59), .ref (eA E 60)] : List Value).set 11 (.int v))) = wl E (up u.1 40 2 v, u.2) := rfl
theorem pX6_textLong (F : Fx E p s m args meth co cc nL own ret) (hI : Iv E s H locs u) {idx : Nat} {v : Int32} (hL : FLk own idx "ShareStreamsModel" "textLong" "I") (hdg : decode cc pc = .ok (.putfield idx, 3)) (kk : ∀ (H1 : Heap) (locs1 : List Loc), Iv E s H1 locs1 (up u.1 40 2 v, u.2) → W p l e R s m args below meth co H1 locs1 cells slots Q (F0 m (pc + 3) ls (rest))) : W p l e R s m args below meth co H locs cells slots Q (F0 m pc ls (.int v :: .ref (eA E 48) :: rest)) := fP F hI 48 (wX6 E u) rfl inlX6 tyX6 tyX6_ok nmX6 11 (by decide) hL rfl rfl rfl rfl (Nat.le_of_ble_eq_true rfl) (sX6_textLong E u v) hdg kk
theorem gX6_spot (F : Fx E p s m args meth co cc nL own ret) (hI : Iv E s H locs u) {idx : Nat} (hL : FLk own idx "ShareStreamsModel" "spot" "I") (hdg : decode cc pc = .ok (.getfield idx, 3)) (kk : W p l e R s m args below meth co H locs cells slots Q (F0 m (pc + 3) ls (.int (u.1 40 3) :: rest))) : W p l e R s m args below meth co H locs cells slots Q (F0 m pc ls (.ref (eA E 48) :: rest)) := fG F hI 48 (wX6 E u) rfl inlX6 12 (by decide) hL rfl rfl hdg kk
theorem sX6_spot (E : EV) (u : SS) (v : Int32) : (wl E u).set 48 (eA E 48, .inr (6, ([.ref (eA E 49), .ref (eA E 50), .ref (eA E 51), .int (u.1 40 0), .ref (eA E 52), .int (u.1 40 1), .ref (eA E 53), .ref (eA E 54), .ref (eA E 55), .ref (eA E 56), .ref (eA E 57), .int (u.1 40 2), .int (u.1 40 3), .ref (eA E 58), .int (u.1 40 4), .int (u.1 40 5), .ref (eA E 59), .ref (eA E 60)] : List Value).set 12 (.int v))) = wl E (up u.1 40 3 v, u.2) := rfl
theorem pX6_spot (F : Fx E p s m args meth co cc nL own ret) (hI : Iv E s H locs u) {idx : Nat} {v : Int32} (hL : FLk own idx "ShareStreamsModel" "spot" "I") (hdg : decode cc pc = .ok (.putfield idx, 3)) (kk : ∀ (H1 : Heap) (locs1 : List Loc), Iv E s H1 locs1 (up u.1 40 3 v, u.2) → W p l e R s m args below meth co H1 locs1 cells slots Q (F0 m (pc + 3) ls (rest))) : W p l e R s m args below meth co H locs cells slots Q (F0 m pc ls (.int v :: .ref (eA E 48) :: rest)) := fP F hI 48 (wX6 E u) rfl inlX6 tyX6 tyX6_ok nmX6 12 (by decide) hL rfl rfl rfl rfl (Nat.le_of_ble_eq_true rfl) (sX6_spot E u v) hdg kk
theorem gX6_read (F : Fx E p s m args meth co cc nL own ret) (hI : Iv E s H locs u) {idx : Nat} (hL : FLk own idx "ShareStreamsModel" "read" "[I") (hdg : decode cc pc = .ok (.getfield idx, 3)) (kk : W p l e R s m args below meth co H locs cells slots Q (F0 m (pc + 3) ls (.ref (eA E 58) :: rest))) : W p l e R s m args below meth co H locs cells slots Q (F0 m pc ls (.ref (eA E 48) :: rest)) := fG F hI 48 (wX6 E u) rfl inlX6 13 (by decide) hL rfl rfl hdg kk
theorem gX6_readMany (F : Fx E p s m args meth co cc nL own ret) (hI : Iv E s H locs u) {idx : Nat} (hL : FLk own idx "ShareStreamsModel" "readMany" "I") (hdg : decode cc pc = .ok (.getfield idx, 3)) (kk : W p l e R s m args below meth co H locs cells slots Q (F0 m (pc + 3) ls (.int (u.1 40 4) :: rest))) : W p l e R s m args below meth co H locs cells slots Q (F0 m pc ls (.ref (eA E 48) :: rest)) := fG F hI 48 (wX6 E u) rfl inlX6 14 (by decide) hL rfl rfl hdg kk
theorem sX6_readMany (E : EV) (u : SS) (v : Int32) : (wl E u).set 48 (eA E 48, .inr (6, ([.ref (eA E 49), .ref (eA E 50), .ref (eA E 51), .int (u.1 40 0), .ref (eA E 52), .int (u.1 40 1), .ref (eA E 53), .ref (eA E 54), .ref (eA E 55), .ref (eA E 56), .ref (eA E 57), .int (u.1 40 2), .int (u.1 40 3), .ref (eA E 58), .int (u.1 40 4), .int (u.1 40 5), .ref (eA E 59), .ref (eA E 60)] : List Value).set 14 (.int v))) = wl E (up u.1 40 4 v, u.2) := rfl
theorem pX6_readMany (F : Fx E p s m args meth co cc nL own ret) (hI : Iv E s H locs u) {idx : Nat} {v : Int32} (hL : FLk own idx "ShareStreamsModel" "readMany" "I") (hdg : decode cc pc = .ok (.putfield idx, 3)) (kk : ∀ (H1 : Heap) (locs1 : List Loc), Iv E s H1 locs1 (up u.1 40 4 v, u.2) → W p l e R s m args below meth co H1 locs1 cells slots Q (F0 m (pc + 3) ls (rest))) : W p l e R s m args below meth co H locs cells slots Q (F0 m pc ls (.int v :: .ref (eA E 48) :: rest)) := fP F hI 48 (wX6 E u) rfl inlX6 tyX6 tyX6_ok nmX6 14 (by decide) hL rfl rfl rfl rfl (Nat.le_of_ble_eq_true rfl) (sX6_readMany E u v) hdg kk
theorem gX6_number (F : Fx E p s m args meth co cc nL own ret) (hI : Iv E s H locs u) {idx : Nat} (hL : FLk own idx "ShareStreamsModel" "number" "I") (hdg : decode cc pc = .ok (.getfield idx, 3)) (kk : W p l e R s m args below meth co H locs cells slots Q (F0 m (pc + 3) ls (.int (u.1 40 5) :: rest))) : W p l e R s m args below meth co H locs cells slots Q (F0 m pc ls (.ref (eA E 48) :: rest)) := fG F hI 48 (wX6 E u) rfl inlX6 15 (by decide) hL rfl rfl hdg kk
theorem sX6_number (E : EV) (u : SS) (v : Int32) : (wl E u).set 48 (eA E 48, .inr (6, ([.ref (eA E 49), .ref (eA E 50), .ref (eA E 51), .int (u.1 40 0), .ref (eA E 52), .int (u.1 40 1), .ref (eA E 53), .ref (eA E 54), .ref (eA E 55), .ref (eA E 56), .ref (eA E 57), .int (u.1 40 2), .int (u.1 40 3), .ref (eA E 58), .int (u.1 40 4), .int (u.1 40 5), .ref (eA E 59), .ref (eA E 60)] : List Value).set 15 (.int v))) = wl E (up u.1 40 5 v, u.2) := rfl
theorem pX6_number (F : Fx E p s m args meth co cc nL own ret) (hI : Iv E s H locs u) {idx : Nat} {v : Int32} (hL : FLk own idx "ShareStreamsModel" "number" "I") (hdg : decode cc pc = .ok (.putfield idx, 3)) (kk : ∀ (H1 : Heap) (locs1 : List Loc), Iv E s H1 locs1 (up u.1 40 5 v, u.2) → W p l e R s m args below meth co H1 locs1 cells slots Q (F0 m (pc + 3) ls (rest))) : W p l e R s m args below meth co H locs cells slots Q (F0 m pc ls (.int v :: .ref (eA E 48) :: rest)) := fP F hI 48 (wX6 E u) rfl inlX6 tyX6 tyX6_ok nmX6 15 (by decide) hL rfl rfl rfl rfl (Nat.le_of_ble_eq_true rfl) (sX6_number E u v) hdg kk
theorem gX6_deep (F : Fx E p s m args meth co cc nL own ret) (hI : Iv E s H locs u) {idx : Nat} (hL : FLk own idx "ShareStreamsModel" "deep" "[I") (hdg : decode cc pc = .ok (.getfield idx, 3)) (kk : W p l e R s m args below meth co H locs cells slots Q (F0 m (pc + 3) ls (.ref (eA E 59) :: rest))) : W p l e R s m args below meth co H locs cells slots Q (F0 m pc ls (.ref (eA E 48) :: rest)) := fG F hI 48 (wX6 E u) rfl inlX6 16 (by decide) hL rfl rfl hdg kk
theorem gX6_sources (F : Fx E p s m args meth co cc nL own ret) (hI : Iv E s H locs u) {idx : Nat} (hL : FLk own idx "ShareStreamsModel" "sources" "[I") (hdg : decode cc pc = .ok (.getfield idx, 3)) (kk : W p l e R s m args below meth co H locs cells slots Q (F0 m (pc + 3) ls (.ref (eA E 60) :: rest))) : W p l e R s m args below meth co H locs cells slots Q (F0 m pc ls (.ref (eA E 48) :: rest)) := fG F hI 48 (wX6 E u) rfl inlX6 17 (by decide) hL rfl rfl hdg kk
theorem iK {b : Nat} (hb : b < 7) : IsI (11 + 3 * b) (20 + b) 16 := fun E u => ⟨by
  match b, hb with
  | 0, _ => rfl
  | 1, _ => rfl
  | 2, _ => rfl
  | 3, _ => rfl
  | 4, _ => rfl
  | 5, _ => rfl
  | 6, _ => rfl
  | n + 7, h => exact absurd h (by omega), fun i x => by
  match b, hb with
  | 0, _ => rfl
  | 1, _ => rfl
  | 2, _ => rfl
  | 3, _ => rfl
  | 4, _ => rfl
  | 5, _ => rfl
  | 6, _ => rfl
  | n + 7, h => exact absurd h (by omega)⟩
theorem iN {b : Nat} (hb : b < 7) : IsI (12 + 3 * b) (30 + b) 48 := fun E u => ⟨by
  match b, hb with
  | 0, _ => rfl
  | 1, _ => rfl
  | 2, _ => rfl
  | 3, _ => rfl
  | 4, _ => rfl
  | 5, _ => rfl
  | 6, _ => rfl
  | n + 7, h => exact absurd h (by omega), fun i x => by
  match b, hb with
  | 0, _ => rfl
  | 1, _ => rfl
  | 2, _ => rfl
  | 3, _ => rfl
  | 4, _ => rfl
  | 5, _ => rfl
  | 6, _ => rfl
  | n + 7, h => exact absurd h (by omega)⟩
theorem iRow {b : Nat} (hb : b < 16) : IsL (32 + b) b := fun E u => ⟨by
  match b, hb with
  | 0, _ => rfl
  | 1, _ => rfl
  | 2, _ => rfl
  | 3, _ => rfl
  | 4, _ => rfl
  | 5, _ => rfl
  | 6, _ => rfl
  | 7, _ => rfl
  | 8, _ => rfl
  | 9, _ => rfl
  | 10, _ => rfl
  | 11, _ => rfl
  | 12, _ => rfl
  | 13, _ => rfl
  | 14, _ => rfl
  | 15, _ => rfl
  | n + 16, h => exact absurd h (by omega), fun i x => by
  match b, hb with
  | 0, _ => rfl
  | 1, _ => rfl
  | 2, _ => rfl
  | 3, _ => rfl
  | 4, _ => rfl
  | 5, _ => rfl
  | 6, _ => rfl
  | 7, _ => rfl
  | 8, _ => rfl
  | 9, _ => rfl
  | 10, _ => rfl
  | 11, _ => rfl
  | 12, _ => rfl
  | 13, _ => rfl
  | 14, _ => rfl
  | 15, _ => rfl
  | n + 16, h => exact absurd h (by omega)⟩
theorem iX2_exactShares : IsI 6 3 16 := fun _ _ => ⟨rfl, fun _ _ => rfl⟩
theorem iX2_depths : IsI 7 4 16 := fun _ _ => ⟨rfl, fun _ _ => rfl⟩
theorem iX2_origins : IsI 8 5 16 := fun _ _ => ⟨rfl, fun _ _ => rfl⟩
theorem iX6_all : IsI 49 41 66 := fun _ _ => ⟨rfl, fun _ _ => rfl⟩
theorem iX6_kept : IsI 50 42 66 := fun _ _ => ⟨rfl, fun _ _ => rfl⟩
theorem iX6_history : IsI 51 43 264 := fun _ _ => ⟨rfl, fun _ _ => rfl⟩
theorem iX6_snapshot : IsI 52 44 66 := fun _ _ => ⟨rfl, fun _ _ => rfl⟩
theorem iX6_bits : IsI 54 45 16000 := fun _ _ => ⟨rfl, fun _ _ => rfl⟩
theorem iX6_register : IsI 55 46 16 := fun _ _ => ⟨rfl, fun _ _ => rfl⟩
theorem iX6_exact : IsI 56 47 16 := fun _ _ => ⟨rfl, fun _ _ => rfl⟩
theorem iX6_text : IsI 57 48 80 := fun _ _ => ⟨rfl, fun _ _ => rfl⟩
theorem iX6_read : IsI 58 49 80 := fun _ _ => ⟨rfl, fun _ _ => rfl⟩
theorem iX6_deep : IsI 59 50 16 := fun _ _ => ⟨rfl, fun _ _ => rfl⟩
theorem iX6_sources : IsI 60 51 16 := fun _ _ => ⟨rfl, fun _ _ => rfl⟩
theorem rX0 (F : Fx E p s m args meth co cc nL own ret) (hI : Iv E s H locs u) {b : Nat} (hb : b < 7) : ∃ cell : Cell, H[eA E (10 + 3 * b)]? = some cell ∧ cell.vm.isStatics = false ∧ s.vm.findClass RX0 = some cell.cls := va_recv F.2.2.2.2.2.1.1 hI.1.1 (ci := 0) (q := (RX0, TX0, 4)) rfl (wB E u hb)
theorem rX5 (F : Fx E p s m args meth co cc nL own ret) (hI : Iv E s H locs u) : ∃ cell : Cell, H[eA E 0]? = some cell ∧ cell.vm.isStatics = false ∧ s.vm.findClass RX5 = some cell.cls := va_recv F.2.2.2.2.2.1.1 hI.1.1 (ci := 5) (q := (RX5, TX5, 8)) rfl (wX5 E u)
theorem rX3 (F : Fx E p s m args meth co cc nL own ret) (hI : Iv E s H locs u) : ∃ cell : Cell, H[eA E 1]? = some cell ∧ cell.vm.isStatics = false ∧ s.vm.findClass RX3 = some cell.cls := va_recv F.2.2.2.2.2.1.1 hI.1.1 (ci := 3) (q := (RX3, TX3, 3)) rfl (wX3 E u)
theorem rX1 (F : Fx E p s m args meth co cc nL own ret) (hI : Iv E s H locs u) : ∃ cell : Cell, H[eA E 3]? = some cell ∧ cell.vm.isStatics = false ∧ s.vm.findClass RX1 = some cell.cls := va_recv F.2.2.2.2.2.1.1 hI.1.1 (ci := 1) (q := (RX1, TX1, 3)) rfl (wX1 E u)
theorem rX2 (F : Fx E p s m args meth co cc nL own ret) (hI : Iv E s H locs u) : ∃ cell : Cell, H[eA E 5]? = some cell ∧ cell.vm.isStatics = false ∧ s.vm.findClass RX2 = some cell.cls := va_recv F.2.2.2.2.2.1.1 hI.1.1 (ci := 2) (q := (RX2, TX2, 3)) rfl (wX2 E u)
theorem rX4 (F : Fx E p s m args meth co cc nL own ret) (hI : Iv E s H locs u) : ∃ cell : Cell, H[eA E 9]? = some cell ∧ cell.vm.isStatics = false ∧ s.vm.findClass RX4 = some cell.cls := va_recv F.2.2.2.2.2.1.1 hI.1.1 (ci := 4) (q := (RX4, TX4, 1)) rfl (wX4 E u)
theorem rX6 (F : Fx E p s m args meth co cc nL own ret) (hI : Iv E s H locs u) : ∃ cell : Cell, H[eA E 48]? = some cell ∧ cell.vm.isStatics = false ∧ s.vm.findClass RX6 = some cell.cls := va_recv F.2.2.2.2.2.1.1 hI.1.1 (ci := 6) (q := (RX6, TX6, 18)) rfl (wX6 E u)
theorem xV {As : List Value} {b : Nat} {C : String} {y : MethodName} {bytes : ByteArray} {maxL n idx f k : Nat} {ret' : Option FieldType} {Qc : Array Value → State → Outcome → State → Prop} {lv : List (Nat × Value)} (F : Fx E p s m args meth co cc nL own ret) (hI : Iv E s H locs u) (hl : lv_has ls nL lv) (hM : CT l y bytes maxL ret' (Rm f k) (.ref b :: As) E u Qc) (hL : LkV own idx C y bytes maxL ret' n) (hr : ∃ cell : Cell, H[b]? = some cell ∧ cell.vm.isStatics = false ∧ s.vm.findClass C = some cell.cls) (hn : As.length = n) (hR : f + 1 ≤ R.frames ∧ 8 + (maxL + 11) + k ≤ R.locals) (hf : cells ≤ R.cells ∧ slots ≤ R.slots) (hst : st = As.reverse ++ .ref b :: rest) (hW : (rest.map fun v => v.category).sum ≤ 8) (hdg : decode cc pc = .ok (.invokevirtual idx, 3)) :
    va_Run p l e R s m args below meth co H locs cells slots 0 0 (F0 m pc ls st) rest (Qc (Value.ref b :: As).toArray) (eR E) := by
  obtain ⟨⟨hl1, h2, h3, h4, h5, h6⟩, h7, h8⟩ := hL
  have ht := F.2.2.2.2.1
  have hp : PreV s H C b (va_Pc (.ref b :: As) (Pre E u)) As := ⟨Pre.blind, hr, fun U hU hW => ⟨rfl, by rw [hU]; exact hI.1, F.2.2.2.2.2.1.step hI.2 hU hW⟩⟩
  rcases hl1 with h1 | ⟨host, h1⟩
  · exact va_runV ⟨F.1, F.2.1, F.2.2.1, F.2.2.2.1, ht⟩ hM ⟨callB_of n ht (gW_in h3) rfl rfl rfl (ht _ h2) (ht _ h1) ⟨h4, h5, h6⟩ hR, ht _ h7, ht _ h8⟩ hp rfl hn hl.1 hst (lv_room hW) hdg hf
  · exact va_runVN ⟨F.1, F.2.1, F.2.2.1, F.2.2.2.1, ht⟩ hM ⟨va_cnB n ht (gW_in h3) rfl rfl rfl (F.2.2.2.2.2.1.2.1 _ h1) (ht _ h2) ⟨h4, h5, h6⟩ hR, ht _ h7, ht _ h8⟩ hp rfl hn hl.1 hst (lv_room hW) hdg hf
theorem xS {As : List Value} {y : MethodName} {bytes : ByteArray} {maxL n idx f k : Nat} {ret' : Option FieldType} {Qc : Array Value → State → Outcome → State → Prop} {lv : List (Nat × Value)} (F : Fx E p s m args meth co cc nL own ret) (hI : Iv E s H locs u) (hl : lv_has ls nL lv) (hM : CT l y bytes maxL ret' (Rm f k) As E u Qc) (hL : LkS own idx y bytes maxL ret' n) (hn : As.length = n) (hR : f + 1 ≤ R.frames ∧ 8 + (maxL + 11) + k ≤ R.locals) (hf : cells ≤ R.cells ∧ slots ≤ R.slots) (hst : st = As.reverse ++ rest) (hW : (rest.map fun v => v.category).sum ≤ 8) (hdg : decode cc pc = .ok (.invokestatic idx, 3)) :
    va_Run p l e R s m args below meth co H locs cells slots 0 0 (F0 m pc ls st) rest (Qc As.toArray) (eR E) := by
  obtain ⟨⟨hl1, h2, h3, h4, h5, h6⟩, h7⟩ := hL
  have ht := F.2.2.2.2.1
  have hp : PreS s H (va_Pc As (Pre E u)) As := ⟨Pre.blind, fun U hU hW => ⟨rfl, by rw [hU]; exact hI.1, F.2.2.2.2.2.1.step hI.2 hU hW⟩⟩
  rcases hl1 with h1 | ⟨host, h1⟩
  · exact va_runS ⟨F.1, F.2.1, F.2.2.1, F.2.2.2.1, ht⟩ hM ⟨callB_of n ht (gW_in h3) rfl rfl rfl (ht _ h2) (ht _ h1) ⟨h4, h5, h6⟩ hR, ht _ h7⟩ hp rfl hn hl.1 hst (lv_room hW) hdg hf
  · exact va_runSN ⟨F.1, F.2.1, F.2.2.1, F.2.2.2.1, ht⟩ hM ⟨va_cnB n ht (gW_in h3) rfl rfl rfl (F.2.2.2.2.2.1.2.1 _ h1) (ht _ h2) ⟨h4, h5, h6⟩ hR, ht _ h7, trivial⟩ hp rfl hn hl.1 hst (lv_room hW) hdg hf
theorem zI {S : Type} {post : Int32 → S → Prop} {emb : S → SS} {a : Array Value} (hI : Iv E s H locs u) (hr : va_Run p l e R s m args below meth co H locs cells slots 0 0 (F0 m pc ls st) rest (Q_i E post emb a) (eR E)) (kk : ∀ (r : Int32) (v : S) (H1 : Heap) (locs1 : List Loc), Iv E s H1 locs1 (emb v) → post r v → W p l e R s m args below meth co H1 locs1 cells slots Q (F0 m (pc + 3) ls (.int r :: rest))) : W p l e R s m args below meth co H locs cells slots Q (F0 m pc ls (st)) :=
  va_calli hr hI.2 (fun _ _ h => h) (fun _ h => h) (fun r v t H1 locs1 ht _ hp hB _ _ hS => kk r v H1 locs1 ⟨by rw [← ht]; exact hB, hS⟩ hp)
theorem zL {S : Type} {post : Int64 → S → Prop} {emb : S → SS} {a : Array Value} (hI : Iv E s H locs u) (hr : va_Run p l e R s m args below meth co H locs cells slots 0 0 (F0 m pc ls st) rest (Q_l E post emb a) (eR E)) (kk : ∀ (r : Int64) (v : S) (H1 : Heap) (locs1 : List Loc), Iv E s H1 locs1 (emb v) → post r v → W p l e R s m args below meth co H1 locs1 cells slots Q (F0 m (pc + 3) ls (.long r :: rest))) : W p l e R s m args below meth co H locs cells slots Q (F0 m pc ls (st)) :=
  va_calll hr hI.2 (fun _ _ h => h) (fun _ h => h) (fun r v t H1 locs1 ht _ hp hB _ _ hS => kk r v H1 locs1 ⟨by rw [← ht]; exact hB, hS⟩ hp)
theorem zV {S : Type} {post : S → Prop} {emb : S → SS} {a : Array Value} (hI : Iv E s H locs u) (hr : va_Run p l e R s m args below meth co H locs cells slots 0 0 (F0 m pc ls st) rest (Q_v E post emb a) (eR E)) (kk : ∀ (v : S) (H1 : Heap) (locs1 : List Loc), Iv E s H1 locs1 (emb v) → post v → W p l e R s m args below meth co H1 locs1 cells slots Q (F0 m (pc + 3) ls (rest))) : W p l e R s m args below meth co H locs cells slots Q (F0 m pc ls (st)) :=
  va_callv hr hI.2 (fun _ _ h => h) (fun _ h => h) (fun v t H1 locs1 ht _ hp hB _ _ hS => kk v H1 locs1 ⟨by rw [← ht]; exact hB, hS⟩ hp)
theorem zQ {S : Type} {post : Option Nat → S → Prop} {emb : S → SS} {a : Array Value} (hI : Iv E s H locs u) (hr : va_Run p l e R s m args below meth co H locs cells slots 0 0 (F0 m pc ls st) rest (Q_q E post emb a) (eR E)) (kk : ∀ (r : Option Nat) (v : S) (H1 : Heap) (locs1 : List Loc), Iv E s H1 locs1 (emb v) → post r v → W p l e R s m args below meth co H1 locs1 cells slots Q (F0 m (pc + 3) ls (va_rf r :: rest))) : W p l e R s m args below meth co H locs cells slots Q (F0 m pc ls (st)) :=
  va_callq hr hI.2 (fun _ _ h => h) (fun _ h => h) (fun r v t H1 locs1 ht _ hp hB _ _ hS => kk r v H1 locs1 ⟨by rw [← ht]; exact hB, hS⟩ hp)
theorem zc (F : Fx E p s m args meth co cc nL own ret) {idx : Nat} {v : Int32} (hK : Cond.constant own idx v ∈ gW) (hdg : decode cc pc = .ok (.ldc idx, 2)) (k : W p l e R s m args below meth co H locs cells slots Q (F0 m (pc + 2) ls (.int v :: rest))) : W p l e R s m args below meth co H locs cells slots Q (F0 m pc ls (rest)) := lv_ldc F.1 F.2.1 F.2.2.2.1 (F.2.2.2.2.1 _ hK) hdg k
theorem zcl (F : Fx E p s m args meth co cc nL own ret) {idx : Nat} {v : Int64} (hK : Cond.constantLong own idx v ∈ gW) (hdg : decode cc pc = .ok (.ldc2_w idx, 3)) (k : W p l e R s m args below meth co H locs cells slots Q (F0 m (pc + 3) ls (.long v :: rest))) : W p l e R s m args below meth co H locs cells slots Q (F0 m pc ls (rest)) := lv_ldc2 F.1 F.2.1 F.2.2.2.1 (F.2.2.2.2.1 _ hK) hdg k
theorem tI {x y : Int32} (h : x = y) (k : W p l e R s m args below meth co H locs cells slots Q (F0 m pc ls (.int y :: rest))) : W p l e R s m args below meth co H locs cells slots Q (F0 m pc ls (.int x :: rest)) := h ▸ k
theorem tL {x y : Int64} (h : x = y) (k : W p l e R s m args below meth co H locs cells slots Q (F0 m pc ls (.long y :: rest))) : W p l e R s m args below meth co H locs cells slots Q (F0 m pc ls (.long x :: rest)) := h ▸ k
theorem t2 {x y : Int32} {w : Value} (h : x = y) (k : W p l e R s m args below meth co H locs cells slots Q (F0 m pc ls (w :: .int y :: rest))) : W p l e R s m args below meth co H locs cells slots Q (F0 m pc ls (w :: .int x :: rest)) := h ▸ k
theorem j_max : Cond.static Lib.Math.max.name ∈ gW ∧ Cond.initialized "java/lang/Math" ∈ gW ∧ Cond.code Lib.Math.max.name Lib.Math.max.code 2 (some .int) ∈ gW := ⟨gW_t (by decide +kernel) (by decide +kernel), gW_t (by decide +kernel) (by decide +kernel), gW_t (by decide +kernel) (by decide +kernel)⟩
theorem zm_max (F : Fx E p s m args meth co cc nL own ret) {idx : Nat} {x y : Int32} {lv : List (Nat × Value)} (hl : lv_has ls nL lv) (hK : Cond.methodLink own idx Lib.Math.max.name ∈ gW) (hR : 1 ≤ R.frames ∧ (rest.map fun v => v.category).sum + 13 ≤ R.locals) (hf : cells ≤ R.cells ∧ slots ≤ R.slots) (hdg : decode cc pc = .ok (.invokestatic idx, 3)) (k : W p l e R s m args below meth co H locs cells slots Q (F0 m (pc + 3) ls (.int (if x < y then y else x) :: rest))) : W p l e R s m args below meth co H locs cells slots Q (F0 m pc ls (.int y :: .int x :: rest)) := va_mmax F.1 F.2.1 (F.2.2.1.trans hl.1.symm) F.2.2.2.1 (F.2.2.2.2.1 _ hK) (F.2.2.2.2.1 _ j_max.1) (F.2.2.2.2.1 _ j_max.2.1) (F.2.2.2.2.1 _ j_max.2.2) hR.1 hR.2 hf.1 hf.2 hdg k
theorem j_abs : Cond.static Lib.Math.abs.name ∈ gW ∧ Cond.initialized "java/lang/Math" ∈ gW ∧ Cond.code Lib.Math.abs.name Lib.Math.abs.code 1 (some .int) ∈ gW := ⟨gW_t (by decide +kernel) (by decide +kernel), gW_t (by decide +kernel) (by decide +kernel), gW_t (by decide +kernel) (by decide +kernel)⟩
theorem zm_abs (F : Fx E p s m args meth co cc nL own ret) {idx : Nat} {x : Int32} {lv : List (Nat × Value)} (hl : lv_has ls nL lv) (hK : Cond.methodLink own idx Lib.Math.abs.name ∈ gW) (hR : 1 ≤ R.frames ∧ (rest.map fun v => v.category).sum + 13 ≤ R.locals) (hf : cells ≤ R.cells ∧ slots ≤ R.slots) (hdg : decode cc pc = .ok (.invokestatic idx, 3)) (k : W p l e R s m args below meth co H locs cells slots Q (F0 m (pc + 3) ls (.int (if 0 ≤ x then x else 0 - x) :: rest))) : W p l e R s m args below meth co H locs cells slots Q (F0 m pc ls (.int x :: rest)) := va_mabs F.1 F.2.1 (F.2.2.1.trans hl.1.symm) F.2.2.2.1 (F.2.2.2.2.1 _ hK) (F.2.2.2.2.1 _ j_abs.1) (F.2.2.2.2.1 _ j_abs.2.1) (F.2.2.2.2.1 _ j_abs.2.2) hR.1 hR.2 hf.1 hf.2 hdg k
theorem gT0 (F : Fx E p s m args meth co cc nL own ret) (hI : Iv E s H locs u) {idx : Nat} (hL : Cond.fieldLink own idx "ShareStreams" "NUMBERS_OF_KIND" "[I" ∈ gW) (hdg : decode cc pc = .ok (.getstatic idx, 3)) (k : W p l e R s m args below meth co H locs cells slots Q (F0 m (pc + 3) ls (.ref (eS E 0) :: rest))) : W p l e R s m args below meth co H locs cells slots Q (F0 m pc ls (rest)) := va_gets (ref := "ShareStreams") F.1 F.2.1 F.2.2.2.2.2.1.2.2.1.1 hI.2 F.2.2.2.1 (F.2.2.2.2.1 _ hL) (fun _ h => h) hdg k
theorem tT0 (F : Fx E p s m args meth co cc nL own ret) (hI : Iv E s H locs u) {i : Nat} (hin : i < 7) (hdg : decode cc pc = .ok (.iaload, 1)) (k : W p l e R s m args below meth co H locs cells slots Q (F0 m (pc + 1) ls (.int (tblF 0 i) :: rest))) : W p l e R s m args below meth co H locs cells slots Q (F0 m pc ls (.int (nI i) :: .ref (eS E 0) :: rest)) := va_ti F.1 F.2.1 F.2.2.2.2.2.1.2.2.1.2 hI.2 (nI_arr hin (by decide)).1 (by rw [(nI_arr hin (by decide)).2]) hdg k
theorem nT0 (F : Fx E p s m args meth co cc nL own ret) (hI : Iv E s H locs u) (hdg : decode cc pc = .ok (.arraylength, 1)) (k : W p l e R s m args below meth co H locs cells slots Q (F0 m (pc + 1) ls (.int (nI 7) :: rest))) : W p l e R s m args below meth co H locs cells slots Q (F0 m pc ls (.ref (eS E 0) :: rest)) := va_tlen F.1 F.2.1 F.2.2.2.2.2.1.2.2.1.2 hI.2 rfl hdg k
theorem gT1 (F : Fx E p s m args meth co cc nL own ret) (hI : Iv E s H locs u) {idx : Nat} (hL : Cond.fieldLink own idx "ShareStreams" "LINES_OF_KIND" "[I" ∈ gW) (hdg : decode cc pc = .ok (.getstatic idx, 3)) (k : W p l e R s m args below meth co H locs cells slots Q (F0 m (pc + 3) ls (.ref (eS E 1) :: rest))) : W p l e R s m args below meth co H locs cells slots Q (F0 m pc ls (rest)) := va_gets (ref := "ShareStreams") F.1 F.2.1 F.2.2.2.2.2.1.2.2.2.1.1 hI.2 F.2.2.2.1 (F.2.2.2.2.1 _ hL) (fun _ h => h) hdg k
theorem tT1 (F : Fx E p s m args meth co cc nL own ret) (hI : Iv E s H locs u) {i : Nat} (hin : i < 7) (hdg : decode cc pc = .ok (.iaload, 1)) (k : W p l e R s m args below meth co H locs cells slots Q (F0 m (pc + 1) ls (.int (tblF 1 i) :: rest))) : W p l e R s m args below meth co H locs cells slots Q (F0 m pc ls (.int (nI i) :: .ref (eS E 1) :: rest)) := va_ti F.1 F.2.1 F.2.2.2.2.2.1.2.2.2.1.2 hI.2 (nI_arr hin (by decide)).1 (by rw [(nI_arr hin (by decide)).2]) hdg k
theorem nT1 (F : Fx E p s m args meth co cc nL own ret) (hI : Iv E s H locs u) (hdg : decode cc pc = .ok (.arraylength, 1)) (k : W p l e R s m args below meth co H locs cells slots Q (F0 m (pc + 1) ls (.int (nI 7) :: rest))) : W p l e R s m args below meth co H locs cells slots Q (F0 m pc ls (.ref (eS E 1) :: rest)) := va_tlen F.1 F.2.1 F.2.2.2.2.2.1.2.2.2.1.2 hI.2 rfl hdg k
end LKS
end
section
/-! numbers: elements, ranges -/
theorem il (a b : Int32) : a < b ↔ a.toInt < b.toInt := Int32.lt_iff_toInt_lt
theorem ile (a b : Int32) : a ≤ b ↔ a.toInt ≤ b.toInt := Int32.le_iff_toInt_le
theorem nT {n : Nat} (h : n < 2 ^ 31) : (nI n).toInt = (n : Int) := nI_toInt h
theorem ext32 {a b : Int32} (h : a.toInt = b.toInt) : a = b := Int32.toInt_inj.mp h
theorem mx_nI {a b : Nat} (ha : a < 2 ^ 31) (hb : b < 2 ^ 31) : (if nI a < nI b then nI b else nI a) = nI (max a b) := by
  by_cases h : a < b
  · rw [if_pos ((nI_ltI ha hb).mpr h), Nat.max_eq_right (by omega)]
  · rw [if_neg (fun q => h ((nI_ltI ha hb).mp q)), Nat.max_eq_left (by omega)]
theorem clT {x : Int32} (h : 0 ≤ x.toInt) : (x.toNatClampNeg : Int) = x.toInt := by
  show ((x.toInt.toNat : Nat) : Int) = x.toInt
  omega
theorem vp_lt {x : Int32} {n : Nat} (h0 : ¬ x < 0) (h : x < nI n) (hn : n < 2 ^ 31) : vp_in x n := by
  rw [vp_in_iff]
  rw [il, nT hn] at h
  rw [il] at h0
  have e : (0 : Int32).toInt = 0 := rfl
  omega
def el (n : Nat) (f : Nat → Int32) (x : Int32) : Int32 := if x < 0 ∨ nI n ≤ x then 0 else f x.toNatClampNeg
def stE (c : CF) (r n : Nat) (x v : Int32) : CF := if x < 0 ∨ nI n ≤ x then c else up c r x.toNatClampNeg v
theorem nI_nn {i : Nat} (hi : i < 2 ^ 31) : ¬ nI i < 0 := nI_pos hi
theorem el_lt {n : Nat} {f : Nat → Int32} {i : Nat} (h : i < n) (hn : n < 2 ^ 31) : el n f (nI i) = f i := by
  unfold el
  rw [if_neg, nI_clamp (by omega)]
  rintro (q | q)
  · exact nI_pos (by omega) q
  · exact nI_ge h hn q
theorem el_ge {n : Nat} {f : Nat → Int32} {i : Nat} (h : n ≤ i) (hi : i < 2 ^ 31) : el n f (nI i) = 0 := by
  unfold el
  rw [if_pos (Or.inr (nI_le h hi))]
theorem stE_lt {c : CF} {r n i : Nat} {v : Int32} (h : i < n) (hn : n < 2 ^ 31) : stE c r n (nI i) v = up c r i v := by
  unfold stE
  rw [if_neg, nI_clamp (by omega)]
  rintro (q | q)
  · exact nI_pos (by omega) q
  · exact nI_ge h hn q
/-- an argument as a line of n, as a number from a to b -/
def ixO (n : Nat) (x : Int32) : Option Nat := if 0 ≤ x ∧ x < nI n then some x.toNatClampNeg else none
def rgO (a b : Nat) (x : Int32) : Option Nat := if nI a ≤ x ∧ x ≤ nI b then some x.toNatClampNeg else none
theorem ixO_none {n : Nat} {x : Int32} (h : ¬ (0 ≤ x ∧ x < nI n)) : ixO n x = none := if_neg h
theorem x_nI {x : Int32} (h : ¬ x < 0) : x = nI x.toNatClampNeg := by
  apply ext32
  have h2 : 0 ≤ x.toInt := by
    rw [il] at h
    have e : (0 : Int32).toInt = 0 := rfl
    omega
  have h3 := clT h2
  have h4 := x.toInt_lt
  rw [nT (by omega)]
  omega
theorem ixO_some {n : Nat} (hn : n < 2 ^ 31) {x : Int32} (h : 0 ≤ x ∧ x < nI n) : ∃ j, j < n ∧ x = nI j ∧ ixO n x = some j := by
  have h0 : ¬ x < 0 := by
    have h1 := h.1
    rw [ile] at h1
    rw [il]
    omega
  have hx := x_nI h0
  have h2 := h.2
  refine ⟨x.toNatClampNeg, ?_, hx, if_pos h⟩
  have h3 : (x.toNatClampNeg : Int) = x.toInt := clT (by rw [il] at h0; have e : (0 : Int32).toInt = 0 := rfl; omega)
  rw [il, nT hn] at h2
  omega
theorem ixO_cases (n : Nat) (x : Int32) (hn : n < 2 ^ 31) : ixO n x = none ∨ ∃ j, j < n ∧ x = nI j ∧ ixO n x = some j := by
  by_cases h : 0 ≤ x ∧ x < nI n
  · exact Or.inr (ixO_some hn h)
  · exact Or.inl (ixO_none h)
theorem rgO_none {a b : Nat} {x : Int32} (h : ¬ (nI a ≤ x ∧ x ≤ nI b)) : rgO a b x = none := if_neg h
theorem rgO_some {a b : Nat} (ha : a < 2 ^ 31) (hb : b < 2 ^ 31) {x : Int32} (h : nI a ≤ x ∧ x ≤ nI b) : ∃ j, a ≤ j ∧ j ≤ b ∧ x = nI j ∧ rgO a b x = some j := by
  have h1 := h.1
  have h2 := h.2
  rw [ile, nT ha] at h1
  rw [ile, nT hb] at h2
  have h0 : ¬ x < 0 := by
    rw [il]
    have e : (0 : Int32).toInt = 0 := rfl
    omega
  have h3 : (x.toNatClampNeg : Int) = x.toInt := clT (by omega)
  exact ⟨x.toNatClampNeg, by omega, by omega, x_nI h0, if_pos h⟩
theorem rgO_cases (a b : Nat) (x : Int32) (ha : a < 2 ^ 31) (hb : b < 2 ^ 31) : rgO a b x = none ∨ ∃ j, a ≤ j ∧ j ≤ b ∧ x = nI j ∧ rgO a b x = some j := by
  by_cases h : nI a ≤ x ∧ x ≤ nI b
  · exact Or.inr (rgO_some ha hb h)
  · exact Or.inl (rgO_none h)
def bI (b : Bool) : Int32 := if b then 1 else 0
theorem nle_lt {x y : Int32} (h : x < y) : ¬ y ≤ x := by rw [ile]; rw [il] at h; omega
theorem nlt_le {x y : Int32} (h : ¬ x < y) : y ≤ x := by rw [ile]; rw [il] at h; omega
theorem nle_lt' {x y : Int32} (h : ¬ x ≤ y) : y < x := by rw [il]; rw [ile] at h; omega
theorem nlt_of {x y : Int32} (h : x ≤ y) : ¬ y < x := by rw [il]; rw [ile] at h; omega
theorem narrow_b {r : Int32} (h : r = 0 ∨ r = 1) : narrow .boolean (.int r) = .int r := by rcases h with rfl | rfl <;> rfl
end
section
/-! ===== how many places have a property ===== -/
def fb_ct (p : Nat → Bool) : Nat → Nat
  | 0 => 0
  | n + 1 => fb_ct p n + (if p n then 1 else 0)
theorem fb_ct_succ (p : Nat → Bool) (n : Nat) : fb_ct p (n + 1) = fb_ct p n + (if p n then 1 else 0) := rfl
theorem fb_ct_le (p : Nat → Bool) : ∀ n, fb_ct p n ≤ n
  | 0 => Nat.le_refl _
  | n + 1 => by
    have h := fb_ct_le p n
    rw [fb_ct_succ]
    split <;> omega
theorem fb_ct_step (p : Nat → Bool) (m : Nat) : ∀ n, fb_ct p m ≤ fb_ct p (m + n)
  | 0 => Nat.le_refl _
  | n + 1 => by
    have h := fb_ct_step p m n
    show fb_ct p m ≤ fb_ct p (m + n + 1)
    rw [fb_ct_succ]
    omega
theorem fb_ct_mono (p : Nat → Bool) {m n : Nat} (h : m ≤ n) : fb_ct p m ≤ fb_ct p n := by
  have := fb_ct_step p m (n - m)
  rwa [Nat.add_sub_cancel' h] at this
theorem fb_ct_cong {p q : Nat → Bool} : ∀ {n : Nat}, (∀ k, k < n → p k = q k) → fb_ct p n = fb_ct q n
  | 0, _ => rfl
  | n + 1, h => by
    rw [fb_ct_succ, fb_ct_succ, fb_ct_cong (fun k hk => h k (by omega)), h n (by omega)]
/-- one place changed -/
theorem fb_ct_out (p : Nat → Bool) (b : Bool) {i n : Nat} (h : n ≤ i) : fb_ct (fun k => if k = i then b else p k) n = fb_ct p n :=
  fb_ct_cong fun k hk => if_neg (by omega)
theorem fb_ct_upd (p : Nat → Bool) (b : Bool) {i : Nat} : ∀ {n : Nat}, i < n → fb_ct (fun k => if k = i then b else p k) n + (if p i then 1 else 0) = fb_ct p n + (if b then 1 else 0)
  | 0, h => absurd h (Nat.not_lt_zero i)
  | n + 1, h => by
    rw [fb_ct_succ, fb_ct_succ]
    rcases Nat.lt_or_ge i n with q | q
    · have := fb_ct_upd p b q
      have e : (if n = i then b else p n) = p n := if_neg (by omega)
      rw [e]
      omega
    · have e : i = n := by omega
      subst e
      rw [fb_ct_out p b (Nat.le_refl _)]
      simp only [if_true]
      omega
theorem fb_ct_sub {p q : Nat → Bool} : ∀ {n : Nat}, (∀ k, k < n → p k = true → q k = true) → fb_ct p n ≤ fb_ct q n
  | 0, _ => Nat.le_refl _
  | n + 1, h => by
    have h1 := fb_ct_sub (n := n) (p := p) (q := q) (fun k hk => h k (by omega))
    have h2 := h n (by omega)
    rw [fb_ct_succ, fb_ct_succ]
    cases hp : p n <;> cases hq : q n <;> simp_all <;> omega
theorem fb_ct_or {p q : Nat → Bool} : ∀ {n : Nat}, (∀ k, k < n → ¬ (p k = true ∧ q k = true)) → fb_ct (fun k => p k || q k) n = fb_ct p n + fb_ct q n
  | 0, _ => rfl
  | n + 1, h => by
    have h1 := fb_ct_or (n := n) (p := p) (q := q) (fun k hk => h k (by omega))
    have h2 := h n (by omega)
    rw [fb_ct_succ, fb_ct_succ, fb_ct_succ, h1]
    cases hp : p n <;> cases hq : q n <;> simp_all <;> omega
theorem fb_ct_not (p : Nat → Bool) : ∀ n, fb_ct p n + fb_ct (fun k => !p k) n = n
  | 0 => rfl
  | n + 1 => by
    have h := fb_ct_not p n
    rw [fb_ct_succ, fb_ct_succ]
    cases p n <;> simp <;> omega
theorem fb_ct_split (p : Nat → Bool) (m : Nat) : ∀ n, fb_ct p (m + n) = fb_ct p m + fb_ct (fun k => p (m + k)) n
  | 0 => rfl
  | n + 1 => by
    have h := fb_ct_split p m n
    show fb_ct p (m + n + 1) = _
    rw [fb_ct_succ, fb_ct_succ, h, Nat.add_assoc]
theorem fb_ct_zero {p : Nat → Bool} : ∀ {n : Nat}, fb_ct p n = 0 ↔ ∀ k, k < n → p k = false
  | 0 => ⟨fun _ k hk => absurd hk (Nat.not_lt_zero k), fun _ => rfl⟩
  | n + 1 => by
    have h := fb_ct_zero (p := p) (n := n)
    rw [fb_ct_succ]
    constructor
    · intro e k hk
      have e1 : fb_ct p n = 0 := by omega
      rcases Nat.lt_or_ge k n with q | q
      · exact h.mp e1 k q
      · have ek : k = n := by omega
        subst ek
        cases hp : p k
        · rfl
        · simp [hp] at e
    · intro a
      rw [h.mpr (fun k hk => a k (by omega)), a n (by omega)]
      rfl
theorem fb_ct_pos {p : Nat → Bool} {n : Nat} : 0 < fb_ct p n ↔ ∃ k, k < n ∧ p k = true := by
  constructor
  · intro h
    refine Classical.byContradiction fun hx => ?_
    have := fb_ct_zero.mpr (fun k hk => by
      cases hp : p k
      · rfl
      · exact absurd ⟨k, hk, hp⟩ hx : ∀ k, k < n → p k = false)
    omega
  · rintro ⟨k, hk, hp⟩
    rcases Nat.eq_zero_or_pos (fb_ct p n) with e | e
    · have := fb_ct_zero.mp e k hk
      rw [this] at hp
      cases hp
    · exact e
theorem fb_ct_all {p : Nat → Bool} {n : Nat} : fb_ct p n = n ↔ ∀ k, k < n → p k = true := by
  have h := fb_ct_not p n
  constructor
  · intro e k hk
    have z : fb_ct (fun k => !p k) n = 0 := by omega
    have := fb_ct_zero.mp z k hk
    cases hp : p k
    · simp [hp] at this
    · rfl
  · intro a
    have z : fb_ct (fun k => !p k) n = 0 := fb_ct_zero.mpr (fun k hk => by simp [a k hk])
    omega
/-- the k-th place with the property -/
theorem fb_ct_kth {p : Nat → Bool} {k : Nat} : ∀ {n : Nat}, k < fb_ct p n → ∃ i, i < n ∧ p i = true ∧ fb_ct p i = k
  | 0, h => absurd h (Nat.not_lt_zero k)
  | n + 1, h => by
    rcases Nat.lt_or_ge k (fb_ct p n) with q | q
    · obtain ⟨i, h1, h2⟩ := fb_ct_kth q
      exact ⟨i, by omega, h2⟩
    · rw [fb_ct_succ] at h
      cases hp : p n
      · simp [hp] at h; omega
      · simp [hp] at h
        exact ⟨n, by omega, hp, by omega⟩
theorem fb_ct_kth_one {p : Nat → Bool} {i j : Nat} (hi : p i = true) (hj : p j = true) (e : fb_ct p i = fb_ct p j) : i = j := by
  have key : ∀ a b : Nat, a < b → p a = true → fb_ct p a < fb_ct p b := by
    intro a b hab ha
    have h := fb_ct_mono p (show a + 1 ≤ b from hab)
    rw [fb_ct_succ, ha] at h
    simp at h
    omega
  rcases Nat.lt_trichotomy i j with q | q | q
  · have := key i j q hi; omega
  · exact q
  · have := key j i q hj; omega
/-! ===== sums over a range: one place changed, parts, bounds ===== -/
def fb_sm (f : Nat → Nat) : Nat → Nat
  | 0 => 0
  | n + 1 => fb_sm f n + f n
theorem fb_sm_succ (f : Nat → Nat) (n : Nat) : fb_sm f (n + 1) = fb_sm f n + f n := rfl
theorem fb_sm_cong {f g : Nat → Nat} : ∀ {n : Nat}, (∀ k, k < n → f k = g k) → fb_sm f n = fb_sm g n
  | 0, _ => rfl
  | n + 1, h => by rw [fb_sm_succ, fb_sm_succ, fb_sm_cong (fun k hk => h k (by omega)), h n (by omega)]
theorem fb_sm_out (f : Nat → Nat) (v : Nat) {i n : Nat} (h : n ≤ i) : fb_sm (fun k => if k = i then v else f k) n = fb_sm f n :=
  fb_sm_cong fun k hk => if_neg (by omega)
theorem fb_sm_upd (f : Nat → Nat) (v : Nat) {i : Nat} : ∀ {n : Nat}, i < n → fb_sm (fun k => if k = i then v else f k) n + f i = fb_sm f n + v
  | 0, h => absurd h (Nat.not_lt_zero i)
  | n + 1, h => by
    rw [fb_sm_succ, fb_sm_succ]
    rcases Nat.lt_or_ge i n with q | q
    · have := fb_sm_upd f v q
      have e : (if n = i then v else f n) = f n := if_neg (by omega)
      rw [e]
      omega
    · have e : i = n := by omega
      subst e
      rw [fb_sm_out f v (Nat.le_refl _)]
      simp only [if_true]
      omega
theorem fb_sm_add (f g : Nat → Nat) : ∀ n, fb_sm (fun k => f k + g k) n = fb_sm f n + fb_sm g n
  | 0 => rfl
  | n + 1 => by
    have h := fb_sm_add f g n
    rw [fb_sm_succ, fb_sm_succ, fb_sm_succ, h]
    omega
theorem fb_sm_le {f g : Nat → Nat} : ∀ {n : Nat}, (∀ k, k < n → f k ≤ g k) → fb_sm f n ≤ fb_sm g n
  | 0, _ => Nat.le_refl _
  | n + 1, h => by
    have h1 := fb_sm_le (n := n) (f := f) (g := g) (fun k hk => h k (by omega))
    have h2 := h n (by omega)
    rw [fb_sm_succ, fb_sm_succ]
    omega
theorem fb_sm_const (c : Nat) : ∀ n, fb_sm (fun _ => c) n = n * c
  | 0 => by rw [Nat.zero_mul]; rfl
  | n + 1 => by rw [fb_sm_succ, fb_sm_const c n, Nat.succ_mul]
theorem fb_sm_bound {f : Nat → Nat} {c n : Nat} (h : ∀ k, k < n → f k ≤ c) : fb_sm f n ≤ n * c := by
  rw [← fb_sm_const c n]
  exact fb_sm_le h
theorem fb_sm_mono (f : Nat → Nat) (m : Nat) : ∀ n, fb_sm f m ≤ fb_sm f (m + n)
  | 0 => Nat.le_refl _
  | n + 1 => by
    have h := fb_sm_mono f m n
    show fb_sm f m ≤ fb_sm f (m + n + 1)
    rw [fb_sm_succ]
    omega
theorem fb_sm_part (f : Nat → Nat) {i n : Nat} (h : i < n) : fb_sm f i + f i ≤ fb_sm f n := by
  have := fb_sm_mono f (i + 1) (n - (i + 1))
  rw [fb_sm_succ, show i + 1 + (n - (i + 1)) = n by omega] at this
  exact this
theorem fb_sm_split (f : Nat → Nat) (m : Nat) : ∀ n, fb_sm f (m + n) = fb_sm f m + fb_sm (fun k => f (m + k)) n
  | 0 => rfl
  | n + 1 => by
    have h := fb_sm_split f m n
    show fb_sm f (m + n + 1) = _
    rw [fb_sm_succ, fb_sm_succ, h, Nat.add_assoc]
theorem fb_sm_zero {f : Nat → Nat} {n : Nat} (h : fb_sm f n = 0) : ∀ k, k < n → f k = 0 := fun k hk => by
  have := fb_sm_part f hk
  omega
/-- the same over whole numbers -/
def fb_si (f : Nat → Int) : Nat → Int
  | 0 => 0
  | n + 1 => fb_si f n + f n
theorem fb_si_succ (f : Nat → Int) (n : Nat) : fb_si f (n + 1) = fb_si f n + f n := rfl
theorem fb_si_cong {f g : Nat → Int} : ∀ {n : Nat}, (∀ k, k < n → f k = g k) → fb_si f n = fb_si g n
  | 0, _ => rfl
  | n + 1, h => by rw [fb_si_succ, fb_si_succ, fb_si_cong (fun k hk => h k (by omega)), h n (by omega)]
theorem fb_si_out (f : Nat → Int) (v : Int) {i n : Nat} (h : n ≤ i) : fb_si (fun k => if k = i then v else f k) n = fb_si f n :=
  fb_si_cong fun k hk => if_neg (by omega)
theorem fb_si_upd (f : Nat → Int) (v : Int) {i : Nat} : ∀ {n : Nat}, i < n → fb_si (fun k => if k = i then v else f k) n = fb_si f n - f i + v
  | 0, h => absurd h (Nat.not_lt_zero i)
  | n + 1, h => by
    rw [fb_si_succ, fb_si_succ]
    rcases Nat.lt_or_ge i n with q | q
    · have := fb_si_upd f v q
      have e : (if n = i then v else f n) = f n := if_neg (by omega)
      rw [e]
      omega
    · have e : i = n := by omega
      subst e
      rw [fb_si_out f v (Nat.le_refl _)]
      simp only [if_true]
      omega
theorem fb_si_add (f g : Nat → Int) : ∀ n, fb_si (fun k => f k + g k) n = fb_si f n + fb_si g n
  | 0 => rfl
  | n + 1 => by
    have h := fb_si_add f g n
    rw [fb_si_succ, fb_si_succ, fb_si_succ, h]
    omega
theorem fb_si_sub (f g : Nat → Int) : ∀ n, fb_si (fun k => f k - g k) n = fb_si f n - fb_si g n
  | 0 => rfl
  | n + 1 => by
    have h := fb_si_sub f g n
    rw [fb_si_succ, fb_si_succ, fb_si_succ, h]
    omega
theorem fb_si_mul (c : Int) (f : Nat → Int) : ∀ n, fb_si (fun k => c * f k) n = c * fb_si f n
  | 0 => (Int.mul_zero c).symm
  | n + 1 => by
    have h := fb_si_mul c f n
    rw [fb_si_succ, fb_si_succ, h, Int.mul_add]
theorem fb_si_split (f : Nat → Int) (m : Nat) : ∀ n, fb_si f (m + n) = fb_si f m + fb_si (fun k => f (m + k)) n
  | 0 => (Int.add_zero _).symm
  | n + 1 => by
    have h := fb_si_split f m n
    show fb_si f (m + n + 1) = _
    rw [fb_si_succ, fb_si_succ, h, Int.add_assoc]
theorem fb_si_nat (f : Nat → Nat) : ∀ n, fb_si (fun k => (f k : Int)) n = (fb_sm f n : Int)
  | 0 => rfl
  | n + 1 => by
    have h := fb_si_nat f n
    rw [fb_si_succ, fb_sm_succ, h]
    omega
theorem fb_si_bound {f : Nat → Int} {c : Int} (hc : 0 ≤ c) : ∀ {n : Nat}, (∀ k, k < n → -c ≤ f k ∧ f k ≤ c) → -(n * c) ≤ fb_si f n ∧ fb_si f n ≤ n * c
  | 0, _ => by simp [fb_si]
  | n + 1, h => by
    have h1 := fb_si_bound (n := n) (f := f) hc (fun k hk => h k (by omega))
    have h2 := h n (by omega)
    have e : ((n + 1 : Nat) : Int) * c = n * c + c := by rw [Int.natCast_add, Int.add_mul]; simp
    rw [fb_si_succ, e]
    omega
end
section
/-! the state in numbers: (how many lines, the length, the lines: kind and three numbers) -/
abbrev Ln : Type := Nat × Nat × Nat × Nat
abbrev Sg : Type := Nat × Nat × (Nat → Ln)
def LnOk (j : Nat) (q : Ln) : Prop := q.1 ≤ 6 ∧ (q.1 = 0 → q.2.1 ≤ 256 ∧ 1 ≤ q.2.2.1 ∧ q.2.2.1 ≤ 255) ∧ (1 ≤ q.1 → q.2.1 < j) ∧ (1 ≤ q.1 → q.1 ≤ 4 → q.2.2.1 < j) ∧ (q.1 = 4 → q.2.2.2 < j) ∧ (q.1 = 6 → 1 ≤ q.2.2.1 ∧ q.2.2.1 ≤ 60) ∧ q.2.2.1 ≤ 256 ∧ q.2.2.2 ≤ 256
def SgOk (z : Sg) : Prop := z.1 ≤ 16 ∧ 1 ≤ z.2.1 ∧ z.2.1 ≤ 1000 ∧ ∀ j, j < z.1 → LnOk j (z.2.2 j)
def LnAt (b : Nat) (c : CF) (j : Nat) (q : Ln) : Prop := c (20 + b) j = nI q.1 ∧ c (30 + b) (3 * j) = nI q.2.1 ∧ c (30 + b) (3 * j + 1) = nI q.2.2.1 ∧ c (30 + b) (3 * j + 2) = nI q.2.2.2
/-- a bench's lines -/
def RepL (b : Nat) (c : CF) (n : Nat) (f : Nat → Ln) : Prop := c 2 b = nI n ∧ ∀ j, j < n → LnAt b c j (f j)
def RepB (b : Nat) (c : CF) (z : Sg) : Prop := c 1 b = nI z.2.1 ∧ RepL b c z.1 z.2.2
/-- all but the lines of a bench is as it was -/
def Oth (b : Nat) (c0 c : CF) : Prop := ∀ q i, q ≠ 20 + b → q ≠ 30 + b → ¬ (q = 2 ∧ i = b) → c q i = c0 q i
def addC (b n : Nat) (k f s t : Int32) (c : CF) : CF := up (up (up (up (up c (20 + b) n k) (30 + b) (3 * n) f) (30 + b) (3 * n + 1) s) (30 + b) (3 * n + 2) t) 2 b (nI (n + 1))
theorem addC_oth (b n : Nat) (k f s t : Int32) (c : CF) : Oth b c (addC b n k f s t c) := by
  intro q i h1 h2 h3
  unfold addC
  rw [up_at, if_neg h3, up_at, if_neg (fun e => h2 e.1), up_at, if_neg (fun e => h2 e.1), up_at, if_neg (fun e => h2 e.1), up_at, if_neg (fun e => h1 e.1)]
theorem addC_k (b n : Nat) (hb : b < 7) (k f s t : Int32) (c : CF) (j : Nat) : addC b n k f s t c (20 + b) j = if j = n then k else c (20 + b) j := by
  unfold addC
  rw [up_at, if_neg (by omega), up_at, if_neg (by omega), up_at, if_neg (by omega), up_at, if_neg (by omega), up_at]
  by_cases h : j = n
  · rw [if_pos ⟨rfl, h⟩, if_pos h]
  · rw [if_neg (fun e => h e.2), if_neg h]
theorem addC_n (b n : Nat) (hb : b < 7) (k f s t : Int32) (c : CF) (j : Nat) : addC b n k f s t c (30 + b) j = if j = 3 * n + 2 then t else if j = 3 * n + 1 then s else if j = 3 * n then f else c (30 + b) j := by
  unfold addC
  have h0 : ¬ (30 + b = 2 ∧ j = b) := by omega
  have h9 : ¬ (30 + b = 20 + b ∧ j = n) := by omega
  rw [up_at, if_neg h0, up_at, up_at, up_at, up_at, if_neg h9]
  simp only [true_and]
theorem addC_s (b n : Nat) (k f s t : Int32) (c : CF) : addC b n k f s t c 2 b = nI (n + 1) := by
  unfold addC
  rw [up_at, if_pos ⟨rfl, rfl⟩]
def CopyP (b b2 m n : Nat) (c0 c : CF) : Prop := c 2 b = nI (m + n) ∧ (∀ j, j < n → c (20 + b) (m + j) = c0 (20 + b2) j ∧ ∀ k, k < 3 → c (30 + b) (3 * (m + j) + k) = c0 (30 + b2) (3 * j + k)) ∧ (∀ j, j < m → c (20 + b) j = c0 (20 + b) j) ∧ (∀ j, j < 3 * m → c (30 + b) j = c0 (30 + b) j) ∧ Oth b c0 c
theorem CopyP.start {b b2 m : Nat} {c : CF} (h : c 2 b = nI m) : CopyP b b2 m 0 c c := ⟨h, fun j hj => absurd hj (Nat.not_lt_zero _), fun _ _ => rfl, fun _ _ => rfl, fun _ _ _ _ _ => rfl⟩
theorem CopyP.src {b b2 m n : Nat} {c0 c : CF} (h : CopyP b b2 m n c0 c) (hb : b < 7) (hb2 : b2 < 7) (hne : b ≠ b2) : c 2 b2 = c0 2 b2 ∧ (∀ j, c (20 + b2) j = c0 (20 + b2) j) ∧ ∀ j, c (30 + b2) j = c0 (30 + b2) j :=
  ⟨h.2.2.2.2 _ _ (by omega) (by omega) (by omega), fun j => h.2.2.2.2 _ _ (by omega) (by omega) (by omega), fun j => h.2.2.2.2 _ _ (by omega) (by omega) (by omega)⟩
theorem CopyP.step {b b2 m n : Nat} {c0 c c1 : CF} (h : CopyP b b2 m n c0 c) (hb : b < 7) (hb2 : b2 < 7) (hne : b ≠ b2) (e : c1 = addC b (m + n) (c (20 + b2) n) (c (30 + b2) (3 * n)) (c (30 + b2) (3 * n + 1)) (c (30 + b2) (3 * n + 2)) c) : CopyP b b2 m (n + 1) c0 c1 := by
  obtain ⟨s1, s2, s3⟩ := h.src hb hb2 hne
  obtain ⟨h1, h2, h3, h4, h5⟩ := h
  subst e
  refine ⟨addC_s _ _ _ _ _ _ _, fun j hj => ⟨?_, fun k hk => ?_⟩, fun j hj => ?_, fun j hj => ?_, fun q i q1 q2 q3 => ?_⟩
  · rw [addC_k _ _ hb]
    by_cases e : j = n
    · subst e
      rw [if_pos rfl, s2]
    · rw [if_neg (by omega)]
      exact (h2 j (by omega)).1
  · rw [addC_n _ _ hb]
    by_cases e : j = n
    · subst e
      rw [s3, s3, s3]
      by_cases k2 : k = 2
      · rw [if_pos (by omega), k2]
      · by_cases k1 : k = 1
        · rw [if_neg (by omega), if_pos (by omega), k1]
        · have k0 : k = 0 := by omega
          rw [if_neg (by omega), if_neg (by omega), if_pos (by omega), k0, Nat.add_zero]
    · rw [if_neg (by omega), if_neg (by omega), if_neg (by omega)]
      exact (h2 j (by omega)).2 k hk
  · rw [addC_k _ _ hb, if_neg (by omega)]
    exact h3 j hj
  · rw [addC_n _ _ hb, if_neg (by omega), if_neg (by omega), if_neg (by omega)]
    exact h4 j hj
  · rw [addC_oth _ _ _ _ _ _ _ q i q1 q2 q3]
    exact h5 q i q1 q2 q3
/-- a bench is made a copy of another one -/
def CopyOf (b b2 : Nat) (c0 c : CF) : Prop := c 1 b = c0 1 b2 ∧ (∃ n, n ≤ 16 ∧ c0 2 b2 = nI n ∧ c 2 b = nI n ∧ ∀ j, j < n → c (20 + b) j = c0 (20 + b2) j ∧ ∀ k, k < 3 → c (30 + b) (3 * j + k) = c0 (30 + b2) (3 * j + k)) ∧ ∀ q i, q ≠ 20 + b → q ≠ 30 + b → ¬ (q = 2 ∧ i = b) → ¬ (q = 1 ∧ i = b) → c q i = c0 q i
theorem CopyOf.mk' {b b2 n : Nat} {c0 c1 c2 c : CF} (hb : b < 7) (hb2 : b2 < 7) (hne : b ≠ b2) (hn : n ≤ 16) (h2 : c0 2 b2 = nI n) (e1 : c1 = up c0 1 b (c0 1 b2)) (e2 : c2 = up c1 2 b (nI 0)) (h : CopyP b b2 0 n c2 c) : CopyOf b b2 c0 c := by
  obtain ⟨p1, p2, p3, p4, p5⟩ := h
  have hc2 : ∀ q i, ¬ (q = 2 ∧ i = b) → ¬ (q = 1 ∧ i = b) → c2 q i = c0 q i := by
    intro q i a1 a2
    rw [e2, up_at, if_neg a1, e1, up_at, if_neg a2]
  refine ⟨?_, ⟨n, hn, h2, by rw [p1, Nat.zero_add], fun j hj => ⟨?_, fun k hk => ?_⟩⟩, fun q i a1 a2 a3 a4 => ?_⟩
  · rw [p5 1 b (by omega) (by omega) (by omega), e2, up_at, if_neg (by omega), e1, up_at, if_pos ⟨rfl, rfl⟩]
  · have := (p2 j hj).1
    rw [Nat.zero_add] at this
    rw [this, hc2 _ _ (by omega) (by omega)]
  · have := (p2 j hj).2 k hk
    rw [Nat.zero_add] at this
    rw [this, hc2 _ _ (by omega) (by omega)]
  · rw [p5 q i a1 a2 a3, hc2 q i a3 a4]
theorem CopyOf.rep {b b2 : Nat} {c0 c : CF} {z : Sg} (h : CopyOf b b2 c0 c) (hz : RepB b2 c0 z) (hn : z.1 ≤ 16) : RepB b c z := by
  obtain ⟨h1, ⟨n, q0, q1, q2, q3⟩, -⟩ := h
  obtain ⟨z1, z2, z3⟩ := hz
  have e : n = z.1 := (nI_eq (by omega) (by omega)).mp (q1.symm.trans z2)
  subst e
  refine ⟨h1.trans z1, q2, fun j hj => ?_⟩
  obtain ⟨a1, a2, a3, a4⟩ := z3 j hj
  obtain ⟨b1, b2⟩ := q3 j hj
  exact ⟨b1.trans a1, (b2 0 (by omega)).trans a2, (b2 1 (by omega)).trans a3, (b2 2 (by omega)).trans a4⟩
/-- index of a number: line * 3 + which - 1 -/
theorem ix3 (j w : Nat) : nI j * nI 3 + nI (w + 1) - nI 1 = nI (3 * j + w) := by
  rw [pk_mul, nI_add, pk_sub (by omega)]
  congr 1
  omega
end
section
section TV
variable {p : Program} {l : Launch} {e : Env} {R : Room} {s : State} {m : MethodId} {args : Array Value} {below : List Frame} {meth : Method} {co : Code} {H : Heap} {locs : List Loc} {cells slots : Nat} {Q : State → Prop} {pc : Nat} {ls : Array Slot} {rest : List Value}
theorem tV {v w : Value} (h : v = w) (k : W p l e R s m args below meth co H locs cells slots Q (F0 m pc ls (w :: rest))) : W p l e R s m args below meth co H locs cells slots Q (F0 m pc ls (v :: rest)) := h ▸ k
end TV
theorem fm_nn : ∀ a, a < 9 → 0 ≤ nI a ^^^ nI 4 := by decide
theorem CopyOf.z {b b2 : Nat} {c0 c : CF} (h : CopyOf b b2 c0 c) (i : Nat) : c 0 i = c0 0 i := h.2.2 0 i (by omega) (by omega) (by omega) (by omega)
def PushP (o z : Nat) (c0 c : CF) : Prop := ∃ c1, CopyOf (3 + (o + z) % 4) 0 c0 c1 ∧ c = if z < 4 then up c1 0 2 (nI (z + 1)) else up c1 0 1 (nI ((o + 1) % 4))
def PopP (o z : Nat) (c0 c : CF) : Prop := ∃ c1, CopyOf 0 (3 + (o + z) % 4) c0 c1 ∧ c = up c1 0 2 (nI z)
theorem mstartF {l : Launch} {y : MethodName} {cc : ByteArray} {maxL : Nat} {ret : Option FieldType} {f k : Nat} {E : EV} {u : SS} {av : List Value} {Qc : Array Value → State → Outcome → State → Prop} (own : String) (hy : plainFor y = true) (ho : y.cls = own) (hn : (lg_sl av).length ≤ maxL)
    (body : ∀ (p : Program) (e : Env) (s : State) (m : MethodId) (args : Array Value) (below : List Frame) (meth : Method) (co : Code) (ls : Array Slot) (Q : State → Prop), MQ below Qc args s 0 0 (eR E) = Q → Fx E p s m args meth co cc maxL own ret → Iv E s s.heap [] u → lv_has ls maxL (lv_args 0 av) → W p l e (Rm f k) s m args below meth co s.heap [] 0 0 Q (F0 m 0 ls [])) : CT l y cc maxL ret (Rm f k) av E u Qc := by
  refine va_MetF (cc := cc) (maxL := maxL) (ret := ret) hy rfl ?_
  intro p e s m args below meth c s₁ B hml hv
  obtain ⟨rfl, hSw, hK⟩ := hv
  have hts := atoms_spec (ws := Cond.code y cc maxL ret :: gW) B.pre
  have hown : s.vm.findClass y.cls = some m.cls := findClass_of_methodNamed B.named
  rw [lg_entry_eq]
  exact body p e s m _ below meth c _ _ rfl ⟨B.exec, B.bytes, hml, ho ▸ hown, fun w hw => hts w (List.mem_cons_of_mem _ hw), hK, B.returns, B.notSynchronized⟩ ⟨hSw, va_S.rf⟩ (lv_entry av hn)
end
section
set_option maxHeartbeats 400000 in
set_option maxRecDepth 100000 in
theorem kX5_elementAt (l : Launch) (E : EV) (u : SS) {k r n : Nat} (h : IsI k r n) (hn : n < 2 ^ 31) (x : Int32) : CT l yX5_elementAt cX5_elementAt 2 (some .int) (Rm 0 0) [.ref (eA E k), .int (x)] E u (Q_i E (fun r0 _ => r0 = el n (u.1 r) x) (fun (_ : Unit) => u)) := by
  refine mstart RX5 (by decide +kernel) rfl (Nat.le_of_ble_eq_true rfl) ?_
  intro p e s m args below meth co ls Q hQ F hI hl
  have hx := F.1
  have hy := F.2.1
  have hl : lv_has ls 2 [(0, .ref (eA E k)), (1, .int (x))] := hl
  refine lv_iload_n hx hy dX5_elementAt_0 rfl (lv_at hl 1 rfl) ?_
  refine lv_if_lt (tgt := 10) hx hy dX5_elementAt_1 (by decide) (fun h1 => ?_) (fun h1 => ?_)
  · refine lv_iconst (v := nI 0) hx hy dX5_elementAt_10 (by decide) ?_
    refine lv_goto (tgt := 17) hx hy dX5_elementAt_11 (by decide) ?_
    exact rI hQ F (v := ()) hI dX5_elementAt_17 (if_pos (Or.inl h1)).symm
  · refine lv_iload_n hx hy dX5_elementAt_4 rfl (lv_at hl 1 rfl) ?_
    refine lv_aload_n hx hy dX5_elementAt_5 rfl (lv_at hl 0 rfl) ?_
    refine aIn F hI h dX5_elementAt_6 ?_
    refine lv_icmp_lt (tgt := 14) hx hy dX5_elementAt_7 (by decide) (fun h2 => ?_) (fun h2 => ?_)
    · refine lv_aload_n hx hy dX5_elementAt_14 rfl (lv_at hl 0 rfl) ?_
      refine lv_iload_n hx hy dX5_elementAt_15 rfl (lv_at hl 1 rfl) ?_
      refine aIl F hI h (vp_lt h1 h2 hn) dX5_elementAt_16 ?_
      exact rI hQ F (v := ()) hI dX5_elementAt_17 (if_neg (fun q => q.elim h1 (nle_lt h2))).symm
    · refine lv_iconst (v := nI 0) hx hy dX5_elementAt_10 (by decide) ?_
      refine lv_goto (tgt := 17) hx hy dX5_elementAt_11 (by decide) ?_
      exact rI hQ F (v := ()) hI dX5_elementAt_17 (if_pos (Or.inr (nlt_le h2))).symm
set_option maxHeartbeats 400000 in
set_option maxRecDepth 100000 in
theorem kX5_elementAt_t0 (l : Launch) (E : EV) (u : SS) (k : Nat) (hk : k < 7) : CT l yX5_elementAt cX5_elementAt 2 (some .int) (Rm 0 0) [.ref (eS E 0), .int (nI k)] E u (Q_i E (fun r0 _ => r0 = tblF 0 k) (fun (_ : Unit) => u)) := by
  refine mstart RX5 (by decide +kernel) rfl (Nat.le_of_ble_eq_true rfl) ?_
  intro p e s m args below meth co ls Q hQ F hI hl
  have hx := F.1
  have hy := F.2.1
  have hl : lv_has ls 2 [(0, .ref (eS E 0)), (1, .int (nI k))] := hl
  refine lv_iload_n hx hy dX5_elementAt_0 rfl (lv_at hl 1 rfl) ?_
  refine lv_if_lt (tgt := 10) hx hy dX5_elementAt_1 (by decide) (fun h1 => ?_) (fun h1 => ?_)
  · have h1 : k < 0 := (nI_ltI (a := k) (b := 0) (by omega) (by omega)).mp h1
    exact absurd h1 (by omega)
  · have h1 : 0 ≤ k := Nat.le_of_not_lt (fun q9 => h1 ((nI_ltI (a := k) (b := 0) (by omega) (by omega)).mpr q9))
    refine lv_iload_n hx hy dX5_elementAt_4 rfl (lv_at hl 1 rfl) ?_
    refine lv_aload_n hx hy dX5_elementAt_5 rfl (lv_at hl 0 rfl) ?_
    refine nT0 F hI dX5_elementAt_6 ?_
    refine lv_icmp_lt (tgt := 14) hx hy dX5_elementAt_7 (by decide) (fun h2 => ?_) (fun h2 => ?_)
    · have h2 : k < 7 := (nI_ltI (a := k) (b := 7) (by omega) (by omega)).mp h2
      refine lv_aload_n hx hy dX5_elementAt_14 rfl (lv_at hl 0 rfl) ?_
      refine lv_iload_n hx hy dX5_elementAt_15 rfl (lv_at hl 1 rfl) ?_
      refine tT0 F hI (i := k) (by omega) dX5_elementAt_16 ?_
      exact rI hQ F (v := ()) hI dX5_elementAt_17 rfl
    · have h2 : 7 ≤ k := Nat.le_of_not_lt (fun q9 => h2 ((nI_ltI (a := k) (b := 7) (by omega) (by omega)).mpr q9))
      exact absurd h2 (by omega)
set_option maxHeartbeats 400000 in
set_option maxRecDepth 100000 in
theorem kX5_elementAt_t1 (l : Launch) (E : EV) (u : SS) (k : Nat) (hk : k < 7) : CT l yX5_elementAt cX5_elementAt 2 (some .int) (Rm 0 0) [.ref (eS E 1), .int (nI k)] E u (Q_i E (fun r0 _ => r0 = tblF 1 k) (fun (_ : Unit) => u)) := by
  refine mstart RX5 (by decide +kernel) rfl (Nat.le_of_ble_eq_true rfl) ?_
  intro p e s m args below meth co ls Q hQ F hI hl
  have hx := F.1
  have hy := F.2.1
  have hl : lv_has ls 2 [(0, .ref (eS E 1)), (1, .int (nI k))] := hl
  refine lv_iload_n hx hy dX5_elementAt_0 rfl (lv_at hl 1 rfl) ?_
  refine lv_if_lt (tgt := 10) hx hy dX5_elementAt_1 (by decide) (fun h1 => ?_) (fun h1 => ?_)
  · have h1 : k < 0 := (nI_ltI (a := k) (b := 0) (by omega) (by omega)).mp h1
    exact absurd h1 (by omega)
  · have h1 : 0 ≤ k := Nat.le_of_not_lt (fun q9 => h1 ((nI_ltI (a := k) (b := 0) (by omega) (by omega)).mpr q9))
    refine lv_iload_n hx hy dX5_elementAt_4 rfl (lv_at hl 1 rfl) ?_
    refine lv_aload_n hx hy dX5_elementAt_5 rfl (lv_at hl 0 rfl) ?_
    refine nT1 F hI dX5_elementAt_6 ?_
    refine lv_icmp_lt (tgt := 14) hx hy dX5_elementAt_7 (by decide) (fun h2 => ?_) (fun h2 => ?_)
    · have h2 : k < 7 := (nI_ltI (a := k) (b := 7) (by omega) (by omega)).mp h2
      refine lv_aload_n hx hy dX5_elementAt_14 rfl (lv_at hl 0 rfl) ?_
      refine lv_iload_n hx hy dX5_elementAt_15 rfl (lv_at hl 1 rfl) ?_
      refine tT1 F hI (i := k) (by omega) dX5_elementAt_16 ?_
      exact rI hQ F (v := ()) hI dX5_elementAt_17 rfl
    · have h2 : 7 ≤ k := Nat.le_of_not_lt (fun q9 => h2 ((nI_ltI (a := k) (b := 7) (by omega) (by omega)).mpr q9))
      exact absurd h2 (by omega)
set_option maxHeartbeats 400000 in
set_option maxRecDepth 100000 in
theorem kX5_setElement (l : Launch) (E : EV) (u : SS) {k r n : Nat} (h : IsI k r n) (hn : n < 2 ^ 31) (x v : Int32) : CT l yX5_setElement cX5_setElement 3 none (Rm 0 0) [.ref (eA E k), .int (x), .int (v)] E u (Q_v E (fun c => c = stE u.1 r n x v) (fun (c : CF) => (c, u.2))) := by
  refine mstart RX5 (by decide +kernel) rfl (Nat.le_of_ble_eq_true rfl) ?_
  intro p e s m args below meth co ls Q hQ F hI hl
  have hx := F.1
  have hy := F.2.1
  have hl : lv_has ls 3 [(0, .ref (eA E k)), (1, .int (x)), (2, .int (v))] := hl
  refine lv_iload_n hx hy dX5_setElement_0 rfl (lv_at hl 1 rfl) ?_
  refine lv_if_lt (tgt := 14) hx hy dX5_setElement_1 (by decide) (fun h1 => ?_) (fun h1 => ?_)
  · exact rV hQ F (v := u.1) hI dX5_setElement_14 (if_pos (Or.inl h1)).symm
  · refine lv_iload_n hx hy dX5_setElement_4 rfl (lv_at hl 1 rfl) ?_
    refine lv_aload_n hx hy dX5_setElement_5 rfl (lv_at hl 0 rfl) ?_
    refine aIn F hI h dX5_setElement_6 ?_
    refine lv_icmp_ge (tgt := 14) hx hy dX5_setElement_7 (by decide) (fun h2 => ?_) (fun h2 => ?_)
    · exact rV hQ F (v := u.1) hI dX5_setElement_14 (if_pos (Or.inr h2)).symm
    · refine lv_aload_n hx hy dX5_setElement_10 rfl (lv_at hl 0 rfl) ?_
      refine lv_iload_n hx hy dX5_setElement_11 rfl (lv_at hl 1 rfl) ?_
      refine lv_iload_n hx hy dX5_setElement_12 rfl (lv_at hl 2 rfl) ?_
      refine aIs F hI h (vp_lt h1 (nle_lt' h2) hn) dX5_setElement_13 (fun H locs hI => ?_)
      obtain ⟨c3, ec3⟩ : ∃ z9 : CF, z9 = up u.1 r (Int32.toNatClampNeg x) (v) := ⟨_, rfl⟩
      have hI : Iv E s H locs (c3, u.2) := by rw [ec3]; exact hI
      exact rV hQ F (v := c3) hI dX5_setElement_14 (by rw [ec3]; exact (if_neg (fun q => q.elim h1 h2)).symm)
set_option maxHeartbeats 400000 in
set_option maxRecDepth 100000 in
theorem kX5_isWithin (l : Launch) (E : EV) (u : SS) (a b : Nat) (x : Int32) : CT l yX5_isWithin cX5_isWithin 3 (some .boolean) (Rm 0 0) [.int (x), .int (nI a), .int (nI b)] E u (Q_i E (fun r _ => r = if (rgO a b x).isSome = true then 1 else 0) (fun (_ : Unit) => u)) := by
  refine mstart RX5 (by decide +kernel) rfl (Nat.le_of_ble_eq_true rfl) ?_
  intro p e s m args below meth co ls Q hQ F hI hl
  have hx := F.1
  have hy := F.2.1
  have hl : lv_has ls 3 [(0, .int (x)), (1, .int (nI a)), (2, .int (nI b))] := hl
  refine lv_iload_n hx hy dX5_isWithin_0 rfl (lv_at hl 0 rfl) ?_
  refine lv_iload_n hx hy dX5_isWithin_1 rfl (lv_at hl 1 rfl) ?_
  refine lv_icmp_lt (tgt := 14) hx hy dX5_isWithin_2 (by decide) (fun h1 => ?_) (fun h1 => ?_)
  · refine lv_iconst (v := nI 0) hx hy dX5_isWithin_14 (by decide) ?_
    exact rZ hQ F (v := ()) rfl hI dX5_isWithin_15 (by rw [rgO_none (fun q => nle_lt h1 q.1)]; rfl)
  · refine lv_iload_n hx hy dX5_isWithin_5 rfl (lv_at hl 0 rfl) ?_
    refine lv_iload_n hx hy dX5_isWithin_6 rfl (lv_at hl 2 rfl) ?_
    refine lv_icmp_gt (tgt := 14) hx hy dX5_isWithin_7 (by decide) (fun h2 => ?_) (fun h2 => ?_)
    · refine lv_iconst (v := nI 0) hx hy dX5_isWithin_14 (by decide) ?_
      exact rZ hQ F (v := ()) rfl hI dX5_isWithin_15 (by rw [rgO_none (fun q => nle_lt h2 q.2)]; rfl)
    · refine lv_iconst (v := nI 1) hx hy dX5_isWithin_10 (by decide) ?_
      refine lv_goto (tgt := 15) hx hy dX5_isWithin_11 (by decide) ?_
      exact rZ hQ F (v := ()) rfl hI dX5_isWithin_15 (by rw [rgO, if_pos (And.intro (nlt_le h1) (nlt_le h2))]; rfl)
set_option maxHeartbeats 400000 in
set_option maxRecDepth 100000 in
theorem kX5_isShareAndSeed (l : Launch) (E : EV) (u : SS) (x y : Int32) : CT l yX5_isShareAndSeed cX5_isShareAndSeed 2 (some .boolean) (Rm 1 22) [.int (x), .int (y)] E u (Q_i E (fun r _ => r = if (rgO 0 256 x).isSome = true ∧ (rgO 1 255 y).isSome = true then 1 else 0) (fun (_ : Unit) => u)) := by
  refine mstart RX5 (by decide +kernel) rfl (Nat.le_of_ble_eq_true rfl) ?_
  intro p e s m args below meth co ls Q hQ F hI hl
  have hx := F.1
  have hy := F.2.1
  have hl : lv_has ls 2 [(0, .int (x)), (1, .int (y))] := hl
  refine lv_iload_n hx hy dX5_isShareAndSeed_0 rfl (lv_at hl 0 rfl) ?_
  refine lv_iconst (v := nI 0) hx hy dX5_isShareAndSeed_1 (by decide) ?_
  refine lv_sipush (v := nI 256) hx hy dX5_isShareAndSeed_2 (by decide) ?_
  refine zI hI (xS F hI hl (kX5_isWithin l E (u) 0 256 x) M_X5_68 rfl ⟨Nat.le_of_ble_eq_true rfl, Nat.le_of_ble_eq_true rfl⟩ ⟨Nat.zero_le _, Nat.zero_le _⟩ rfl (Nat.le_of_ble_eq_true rfl) dX5_isShareAndSeed_5) (fun r2 v3 H locs hI hp1 => ?_)
  by_cases hb4 : (rgO 0 256 x).isSome = true
  · rw [if_pos hb4] at hp1
    subst hp1
    refine lv_if_eq (tgt := 26) hx hy dX5_isShareAndSeed_8 (by decide) (fun q => absurd q (by decide)) (fun _ => ?_)
    refine lv_iload_n hx hy dX5_isShareAndSeed_11 rfl (lv_at hl 1 rfl) ?_
    refine lv_iconst (v := nI 1) hx hy dX5_isShareAndSeed_12 (by decide) ?_
    refine lv_sipush (v := nI 255) hx hy dX5_isShareAndSeed_13 (by decide) ?_
    refine zI hI (xS F hI hl (kX5_isWithin l E (u) 1 255 y) M_X5_68 rfl ⟨Nat.le_of_ble_eq_true rfl, Nat.le_of_ble_eq_true rfl⟩ ⟨Nat.zero_le _, Nat.zero_le _⟩ rfl (Nat.le_of_ble_eq_true rfl) dX5_isShareAndSeed_16) (fun r6 v7 H locs hI hp5 => ?_)
    by_cases hb8 : (rgO 1 255 y).isSome = true
    · rw [if_pos hb8] at hp5
      subst hp5
      refine lv_if_eq (tgt := 26) hx hy dX5_isShareAndSeed_19 (by decide) (fun q => absurd q (by decide)) (fun _ => ?_)
      refine lv_iconst (v := nI 1) hx hy dX5_isShareAndSeed_22 (by decide) ?_
      refine lv_goto (tgt := 27) hx hy dX5_isShareAndSeed_23 (by decide) ?_
      exact rZ hQ F (v := ()) rfl hI dX5_isShareAndSeed_27 (if_pos ⟨hb4, hb8⟩).symm
    · rw [if_neg hb8] at hp5
      subst hp5
      refine lv_if_eq (tgt := 26) hx hy dX5_isShareAndSeed_19 (by decide) (fun _ => ?_) (fun q => absurd q (by decide))
      refine lv_iconst (v := nI 0) hx hy dX5_isShareAndSeed_26 (by decide) ?_
      exact rZ hQ F (v := ()) rfl hI dX5_isShareAndSeed_27 (if_neg (fun q => hb8 q.2)).symm
  · rw [if_neg hb4] at hp1
    subst hp1
    refine lv_if_eq (tgt := 26) hx hy dX5_isShareAndSeed_8 (by decide) (fun _ => ?_) (fun q => absurd q (by decide))
    refine lv_iconst (v := nI 0) hx hy dX5_isShareAndSeed_26 (by decide) ?_
    exact rZ hQ F (v := ()) rfl hI dX5_isShareAndSeed_27 (if_neg (fun q => hb4 q.1)).symm
set_option maxHeartbeats 400000 in
set_option maxRecDepth 100000 in
theorem kX5_shareOf (l : Launch) (E : EV) (u : SS) (o t : Nat) (ho : o ≤ 1000) (ht : 1 ≤ t) (ht2 : t ≤ 1000) : CT l yX5_shareOf cX5_shareOf 2 (some .int) (Rm 0 0) [.int (nI o), .int (nI t)] E u (Q_i E (fun r _ => r = nI (o * 65536 / t)) (fun (_ : Unit) => u)) := by
  refine mstart RX5 (by decide +kernel) rfl (Nat.le_of_ble_eq_true rfl) ?_
  intro p e s m args below meth co ls Q hQ F hI hl
  have hx := F.1
  have hy := F.2.1
  have hl : lv_has ls 2 [(0, .int (nI o)), (1, .int (nI t))] := hl
  refine lv_iload_n hx hy dX5_shareOf_0 rfl (lv_at hl 1 rfl) ?_
  refine lv_iconst (v := nI 1) hx hy dX5_shareOf_1 (by decide) ?_
  refine lv_icmp_ge (tgt := 9) hx hy dX5_shareOf_2 (by decide) (fun h1 => ?_) (fun h1 => ?_)
  · have h1 : 1 ≤ t := (nI_leI (a := 1) (b := t) (by omega) (by omega)).mp h1
    refine lv_iload_n hx hy dX5_shareOf_9 rfl (lv_at hl 0 rfl) ?_
    refine zc F K_X5_170 dX5_shareOf_10 ?_
    refine tI (show _ = nI 65536 from rfl) ?_
    refine lv_imul hx hy dX5_shareOf_12 ?_
    refine tI (pk_mul (o) (65536)) ?_
    refine lv_iload_n hx hy dX5_shareOf_13 rfl (lv_at hl 1 rfl) ?_
    refine lv_idiv hx hy dX5_shareOf_14 (fun q => absurd ((nI_eq (by omega) (by omega)).mp (show nI (t) = nI 0 from q)) (by omega)) ?_
    refine tI (pk_div (a := o * 65536) (d := t) (by omega) (by omega) (by omega)) ?_
    exact rI hQ F (v := ()) hI dX5_shareOf_15 rfl
  · have h1 : t < 1 := Nat.lt_of_not_le (fun q9 => h1 ((nI_leI (a := 1) (b := t) (by omega) (by omega)).mpr q9))
    exact absurd h1 (by omega)
set_option maxHeartbeats 400000 in
set_option maxRecDepth 100000 in
theorem kX5_numbersOfKind (l : Launch) (E : EV) (u : SS) (k : Nat) (hk : k < 7) : CT l yX5_numbersOfKind cX5_numbersOfKind 1 (some .int) (Rm 1 21) [.int (nI k)] E u (Q_i E (fun r _ => r = tblF 0 k) (fun (_ : Unit) => u)) := by
  refine mstart RX5 (by decide +kernel) rfl (Nat.le_of_ble_eq_true rfl) ?_
  intro p e s m args below meth co ls Q hQ F hI hl
  have hx := F.1
  have hy := F.2.1
  have hl : lv_has ls 1 [(0, .int (nI k))] := hl
  refine gT0 F hI L_X5_213 dX5_numbersOfKind_0 ?_
  refine lv_iload_n hx hy dX5_numbersOfKind_3 rfl (lv_at hl 0 rfl) ?_
  refine zI hI (xS F hI hl (kX5_elementAt_t0 l E (u) k (by omega)) M_X5_217 rfl ⟨Nat.le_of_ble_eq_true rfl, Nat.le_of_ble_eq_true rfl⟩ ⟨Nat.zero_le _, Nat.zero_le _⟩ rfl (Nat.le_of_ble_eq_true rfl) dX5_numbersOfKind_4) (fun r2 v3 H locs hI hp1 => ?_)
  subst hp1
  exact rI hQ F (v := ()) hI dX5_numbersOfKind_7 rfl
set_option maxHeartbeats 400000 in
set_option maxRecDepth 100000 in
theorem kX5_linesOfKind (l : Launch) (E : EV) (u : SS) (k : Nat) (hk : k < 7) : CT l yX5_linesOfKind cX5_linesOfKind 1 (some .int) (Rm 1 21) [.int (nI k)] E u (Q_i E (fun r _ => r = tblF 1 k) (fun (_ : Unit) => u)) := by
  refine mstart RX5 (by decide +kernel) rfl (Nat.le_of_ble_eq_true rfl) ?_
  intro p e s m args below meth co ls Q hQ F hI hl
  have hx := F.1
  have hy := F.2.1
  have hl : lv_has ls 1 [(0, .int (nI k))] := hl
  refine gT1 F hI L_X5_221 dX5_linesOfKind_0 ?_
  refine lv_iload_n hx hy dX5_linesOfKind_3 rfl (lv_at hl 0 rfl) ?_
  refine zI hI (xS F hI hl (kX5_elementAt_t1 l E (u) k (by omega)) M_X5_217 rfl ⟨Nat.le_of_ble_eq_true rfl, Nat.le_of_ble_eq_true rfl⟩ ⟨Nat.zero_le _, Nat.zero_le _⟩ rfl (Nat.le_of_ble_eq_true rfl) dX5_linesOfKind_4) (fun r2 v3 H locs hI hp1 => ?_)
  subst hp1
  exact rI hQ F (v := ()) hI dX5_linesOfKind_7 rfl
end
section
set_option maxHeartbeats 400000 in
set_option maxRecDepth 100000 in
theorem kX0_has (l : Launch) (E : EV) (u : SS) {b n : Nat} (hb : b < 7) (hn : u.1 2 b = nI n) (hn2 : n < 2 ^ 31) (x : Int32) : CT l yX0_has cX0_has 2 (some .boolean) (Rm 0 0) [.ref (eA E (10 + 3 * b)), .int (x)] E u (Q_i E (fun r _ => r = if (ixO n x).isSome = true then 1 else 0) (fun (_ : Unit) => u)) := by
  refine mstart RX0 (by decide +kernel) rfl (Nat.le_of_ble_eq_true rfl) ?_
  intro p e s m args below meth co ls Q hQ F hI hl
  have hx := F.1
  have hy := F.2.1
  have hl : lv_has ls 2 [(0, .ref (eA E (10 + 3 * b))), (1, .int (x))] := hl
  refine lv_iload_n hx hy dX0_has_0 rfl (lv_at hl 1 rfl) ?_
  refine lv_if_lt (tgt := 16) hx hy dX0_has_1 (by decide) (fun h1 => ?_) (fun h1 => ?_)
  · refine lv_iconst (v := nI 0) hx hy dX0_has_16 (by decide) ?_
    exact rZ hQ F (v := ()) rfl hI dX0_has_17 (by rw [ixO_none (fun q => nle_lt h1 q.1)]; rfl)
  · refine lv_iload_n hx hy dX0_has_4 rfl (lv_at hl 1 rfl) ?_
    refine lv_aload_n hx hy dX0_has_5 rfl (lv_at hl 0 rfl) ?_
    refine gX0_size F hI (b := b) hb L_X0_15 dX0_has_6 ?_
    refine tI hn ?_
    refine lv_icmp_ge (tgt := 16) hx hy dX0_has_9 (by decide) (fun h2 => ?_) (fun h2 => ?_)
    · refine lv_iconst (v := nI 0) hx hy dX0_has_16 (by decide) ?_
      exact rZ hQ F (v := ()) rfl hI dX0_has_17 (by rw [ixO_none (fun q => nlt_of h2 q.2)]; rfl)
    · refine lv_iconst (v := nI 1) hx hy dX0_has_12 (by decide) ?_
      refine lv_goto (tgt := 17) hx hy dX0_has_13 (by decide) ?_
      exact rZ hQ F (v := ()) rfl hI dX0_has_17 (by rw [ixO, if_pos (And.intro (nlt_le h1) (nle_lt' h2))]; rfl)
set_option maxHeartbeats 400000 in
set_option maxRecDepth 100000 in
theorem kX0_kindOf (l : Launch) (E : EV) (u : SS) {b : Nat} (hb : b < 7) (x : Int32) : CT l yX0_kindOf cX0_kindOf 2 (some .int) (Rm 1 21) [.ref (eA E (10 + 3 * b)), .int (x)] E u (Q_i E (fun r _ => r = el 16 (u.1 (20 + b)) x) (fun (_ : Unit) => u)) := by
  refine mstart RX0 (by decide +kernel) rfl (Nat.le_of_ble_eq_true rfl) ?_
  intro p e s m args below meth co ls Q hQ F hI hl
  have hx := F.1
  have hy := F.2.1
  have hl : lv_has ls 2 [(0, .ref (eA E (10 + 3 * b))), (1, .int (x))] := hl
  refine lv_aload_n hx hy dX0_kindOf_0 rfl (lv_at hl 0 rfl) ?_
  refine gX0_kinds F hI (b := b) hb L_X0_18 dX0_kindOf_1 ?_
  refine lv_iload_n hx hy dX0_kindOf_4 rfl (lv_at hl 1 rfl) ?_
  refine zI hI (xS F hI hl (kX5_elementAt l E (u) (iK hb) (by decide) x) M_X0_25 rfl ⟨Nat.le_of_ble_eq_true rfl, Nat.le_of_ble_eq_true rfl⟩ ⟨Nat.zero_le _, Nat.zero_le _⟩ rfl (Nat.le_of_ble_eq_true rfl) dX0_kindOf_5) (fun r2 v3 H locs hI hp1 => ?_)
  subst hp1
  exact rI hQ F (v := ()) hI dX0_kindOf_8 rfl
set_option maxHeartbeats 400000 in
set_option maxRecDepth 100000 in
theorem kX0_numberOf (l : Launch) (E : EV) (u : SS) {b : Nat} (hb : b < 7) (x w : Int32) : CT l yX0_numberOf cX0_numberOf 3 (some .int) (Rm 1 21) [.ref (eA E (10 + 3 * b)), .int (x), .int (w)] E u (Q_i E (fun r _ => r = el 48 (u.1 (30 + b)) (x * nI 3 + w - nI 1)) (fun (_ : Unit) => u)) := by
  refine mstart RX0 (by decide +kernel) rfl (Nat.le_of_ble_eq_true rfl) ?_
  intro p e s m args below meth co ls Q hQ F hI hl
  have hx := F.1
  have hy := F.2.1
  have hl : lv_has ls 3 [(0, .ref (eA E (10 + 3 * b))), (1, .int (x)), (2, .int (w))] := hl
  refine lv_aload_n hx hy dX0_numberOf_0 rfl (lv_at hl 0 rfl) ?_
  refine gX0_numbers F hI (b := b) hb L_X0_22 dX0_numberOf_1 ?_
  refine lv_iload_n hx hy dX0_numberOf_4 rfl (lv_at hl 1 rfl) ?_
  refine lv_iconst (v := nI 3) hx hy dX0_numberOf_5 (by decide) ?_
  refine lv_imul hx hy dX0_numberOf_6 ?_
  refine lv_iload_n hx hy dX0_numberOf_7 rfl (lv_at hl 2 rfl) ?_
  refine lv_iadd hx hy dX0_numberOf_8 ?_
  refine lv_iconst (v := nI 1) hx hy dX0_numberOf_9 (by decide) ?_
  refine lv_isub hx hy dX0_numberOf_10 ?_
  refine zI hI (xS F hI hl (kX5_elementAt l E (u) (iN hb) (by decide) (((x * (nI 3)) + w) - (nI 1))) M_X0_25 rfl ⟨Nat.le_of_ble_eq_true rfl, Nat.le_of_ble_eq_true rfl⟩ ⟨Nat.zero_le _, Nat.zero_le _⟩ rfl (Nat.le_of_ble_eq_true rfl) dX0_numberOf_11) (fun r2 v3 H locs hI hp1 => ?_)
  subst hp1
  exact rI hQ F (v := ()) hI dX0_numberOf_14 rfl
set_option maxHeartbeats 400000 in
set_option maxRecDepth 100000 in
theorem kX0_setNumber (l : Launch) (E : EV) (u : SS) {b : Nat} (hb : b < 7) (x w v : Int32) : CT l yX0_setNumber cX0_setNumber 4 none (Rm 1 22) [.ref (eA E (10 + 3 * b)), .int (x), .int (w), .int (v)] E u (Q_v E (fun c => c = stE u.1 (30 + b) 48 (x * nI 3 + w - nI 1) v) (fun (c : CF) => (c, u.2))) := by
  refine mstart RX0 (by decide +kernel) rfl (Nat.le_of_ble_eq_true rfl) ?_
  intro p e s m args below meth co ls Q hQ F hI hl
  have hx := F.1
  have hy := F.2.1
  have hl : lv_has ls 4 [(0, .ref (eA E (10 + 3 * b))), (1, .int (x)), (2, .int (w)), (3, .int (v))] := hl
  refine lv_aload_n hx hy dX0_setNumber_0 rfl (lv_at hl 0 rfl) ?_
  refine gX0_numbers F hI (b := b) hb L_X0_22 dX0_setNumber_1 ?_
  refine lv_iload_n hx hy dX0_setNumber_4 rfl (lv_at hl 1 rfl) ?_
  refine lv_iconst (v := nI 3) hx hy dX0_setNumber_5 (by decide) ?_
  refine lv_imul hx hy dX0_setNumber_6 ?_
  refine lv_iload_n hx hy dX0_setNumber_7 rfl (lv_at hl 2 rfl) ?_
  refine lv_iadd hx hy dX0_setNumber_8 ?_
  refine lv_iconst (v := nI 1) hx hy dX0_setNumber_9 (by decide) ?_
  refine lv_isub hx hy dX0_setNumber_10 ?_
  refine lv_iload_n hx hy dX0_setNumber_11 rfl (lv_at hl 3 rfl) ?_
  refine zV hI (xS F hI hl (kX5_setElement l E (u) (iN hb) (by decide) (((x * (nI 3)) + w) - (nI 1)) v) M_X0_29 rfl ⟨Nat.le_of_ble_eq_true rfl, Nat.le_of_ble_eq_true rfl⟩ ⟨Nat.zero_le _, Nat.zero_le _⟩ rfl (Nat.le_of_ble_eq_true rfl) dX0_setNumber_12) (fun v3 H locs hI hp1 => ?_)
  subst hp1
  obtain ⟨c4, ec4⟩ : ∃ z9 : CF, z9 = stE (u.1) (30 + b) 48 (((x * (nI 3)) + w) - (nI 1)) v := ⟨_, rfl⟩
  have hI : Iv E s H locs (c4, u.2) := by rw [ec4]; exact hI
  exact rV hQ F (v := c4) hI dX0_setNumber_15 ec4
set_option maxHeartbeats 400000 in
set_option maxRecDepth 100000 in
theorem kX0_add (l : Launch) (E : EV) (u : SS) {b n : Nat} (hb : b < 7) (hn : u.1 2 b = nI n) (h16 : n < 16) (k f s_ t : Int32) : CT l yX0_add cX0_add 5 none (Rm 2 45) [.ref (eA E (10 + 3 * b)), .int (k), .int (f), .int (s_), .int (t)] E u (Q_v E (fun c => c = addC b n k f s_ t u.1) (fun (c : CF) => (c, u.2))) := by
  refine mstart RX0 (by decide +kernel) rfl (Nat.le_of_ble_eq_true rfl) ?_
  intro p e s m args below meth co ls Q hQ F hI hl
  have hx := F.1
  have hy := F.2.1
  have hl : lv_has ls 5 [(0, .ref (eA E (10 + 3 * b))), (1, .int (k)), (2, .int (f)), (3, .int (s_)), (4, .int (t))] := hl
  refine lv_aload_n hx hy dX0_add_0 rfl (lv_at hl 0 rfl) ?_
  refine gX0_size F hI (b := b) hb L_X0_15 dX0_add_1 ?_
  refine tI hn ?_
  refine lv_bipush (v := nI 16) hx hy dX0_add_4 (by decide) ?_
  refine lv_icmp_lt (tgt := 10) hx hy dX0_add_6 (by decide) (fun h1 => ?_) (fun h1 => ?_)
  · have h1 : n < 16 := (nI_ltI (a := n) (b := 16) (by omega) (by omega)).mp h1
    refine lv_aload_n hx hy dX0_add_10 rfl (lv_at hl 0 rfl) ?_
    refine gX0_kinds F hI (b := b) hb L_X0_18 dX0_add_11 ?_
    refine lv_aload_n hx hy dX0_add_14 rfl (lv_at hl 0 rfl) ?_
    refine gX0_size F hI (b := b) hb L_X0_15 dX0_add_15 ?_
    refine tI hn ?_
    refine lv_iload_n hx hy dX0_add_18 rfl (lv_at hl 1 rfl) ?_
    refine zV hI (xS F hI hl (kX5_setElement l E (u) (iK hb) (by decide) (nI n) k) M_X0_29 rfl ⟨Nat.le_of_ble_eq_true rfl, Nat.le_of_ble_eq_true rfl⟩ ⟨Nat.zero_le _, Nat.zero_le _⟩ rfl (Nat.le_of_ble_eq_true rfl) dX0_add_19) (fun v4 H locs hI hp2 => ?_)
    rw [stE_lt (by omega) (by decide)] at hp2
    subst hp2
    obtain ⟨c5, ec5⟩ : ∃ z9 : CF, z9 = up u.1 (20 + b) n (k) := ⟨_, rfl⟩
    have hI : Iv E s H locs (c5, u.2) := by rw [ec5]; exact hI
    have kf6 : c5 2 b = nI n := by rw [ec5, up_at, if_neg (by omega)]; exact hn
    refine lv_aload_n hx hy dX0_add_22 rfl (lv_at hl 0 rfl) ?_
    refine lv_aload_n hx hy dX0_add_23 rfl (lv_at hl 0 rfl) ?_
    refine gX0_size F hI (b := b) hb L_X0_15 dX0_add_24 ?_
    refine tI (show _ = c5 2 b from rfl) ?_
    refine tI kf6 ?_
    refine lv_iconst (v := nI 1) hx hy dX0_add_27 (by decide) ?_
    refine lv_iload_n hx hy dX0_add_28 rfl (lv_at hl 2 rfl) ?_
    refine zV hI (xV F hI hl (kX0_setNumber l E ((c5, u.2)) (b := b) hb (nI n) (nI 1) f) M_X0_37 (rX0 F hI (b := b) hb) rfl ⟨Nat.le_of_ble_eq_true rfl, Nat.le_of_ble_eq_true rfl⟩ ⟨Nat.zero_le _, Nat.zero_le _⟩ rfl (Nat.le_of_ble_eq_true rfl) dX0_add_29) (fun v9 H locs hI hp7 => ?_)
    rw [show nI n * nI 3 + nI 1 - nI 1 = nI (3 * n) from ix3 n 0, stE_lt (by omega) (by decide)] at hp7
    subst hp7
    obtain ⟨c10, ec10⟩ : ∃ z9 : CF, z9 = up c5 (30 + b) (3 * n) (f) := ⟨_, rfl⟩
    have hI : Iv E s H locs (c10, u.2) := by rw [ec10]; exact hI
    have kf11 : c10 2 b = nI n := by rw [ec10, up_at, if_neg (by omega)]; exact kf6
    refine lv_aload_n hx hy dX0_add_32 rfl (lv_at hl 0 rfl) ?_
    refine lv_aload_n hx hy dX0_add_33 rfl (lv_at hl 0 rfl) ?_
    refine gX0_size F hI (b := b) hb L_X0_15 dX0_add_34 ?_
    refine tI (show _ = c10 2 b from rfl) ?_
    refine tI kf11 ?_
    refine lv_iconst (v := nI 2) hx hy dX0_add_37 (by decide) ?_
    refine lv_iload_n hx hy dX0_add_38 rfl (lv_at hl 3 rfl) ?_
    refine zV hI (xV F hI hl (kX0_setNumber l E ((c10, u.2)) (b := b) hb (nI n) (nI 2) s_) M_X0_37 (rX0 F hI (b := b) hb) rfl ⟨Nat.le_of_ble_eq_true rfl, Nat.le_of_ble_eq_true rfl⟩ ⟨Nat.zero_le _, Nat.zero_le _⟩ rfl (Nat.le_of_ble_eq_true rfl) dX0_add_39) (fun v14 H locs hI hp12 => ?_)
    rw [show nI n * nI 3 + nI 2 - nI 1 = nI (3 * n + 1) from ix3 n 1, stE_lt (by omega) (by decide)] at hp12
    subst hp12
    obtain ⟨c15, ec15⟩ : ∃ z9 : CF, z9 = up c10 (30 + b) (3 * n + 1) (s_) := ⟨_, rfl⟩
    have hI : Iv E s H locs (c15, u.2) := by rw [ec15]; exact hI
    have kf16 : c15 2 b = nI n := by rw [ec15, up_at, if_neg (by omega)]; exact kf11
    refine lv_aload_n hx hy dX0_add_42 rfl (lv_at hl 0 rfl) ?_
    refine lv_aload_n hx hy dX0_add_43 rfl (lv_at hl 0 rfl) ?_
    refine gX0_size F hI (b := b) hb L_X0_15 dX0_add_44 ?_
    refine tI (show _ = c15 2 b from rfl) ?_
    refine tI kf16 ?_
    refine lv_iconst (v := nI 3) hx hy dX0_add_47 (by decide) ?_
    refine lv_iload hx hy dX0_add_48 (lv_at hl 4 rfl) ?_
    refine zV hI (xV F hI hl (kX0_setNumber l E ((c15, u.2)) (b := b) hb (nI n) (nI 3) t) M_X0_37 (rX0 F hI (b := b) hb) rfl ⟨Nat.le_of_ble_eq_true rfl, Nat.le_of_ble_eq_true rfl⟩ ⟨Nat.zero_le _, Nat.zero_le _⟩ rfl (Nat.le_of_ble_eq_true rfl) dX0_add_50) (fun v19 H locs hI hp17 => ?_)
    rw [show nI n * nI 3 + nI 3 - nI 1 = nI (3 * n + 2) from ix3 n 2, stE_lt (by omega) (by decide)] at hp17
    subst hp17
    obtain ⟨c20, ec20⟩ : ∃ z9 : CF, z9 = up c15 (30 + b) (3 * n + 2) (t) := ⟨_, rfl⟩
    have hI : Iv E s H locs (c20, u.2) := by rw [ec20]; exact hI
    have kf21 : c20 2 b = nI n := by rw [ec20, up_at, if_neg (by omega)]; exact kf16
    refine lv_aload_n hx hy dX0_add_53 rfl (lv_at hl 0 rfl) ?_
    refine lv_dup hx hy dX0_add_54 rfl ?_
    refine gX0_size F hI (b := b) hb L_X0_15 dX0_add_55 ?_
    refine tI (show _ = c20 2 b from rfl) ?_
    refine tI kf21 ?_
    refine lv_iconst (v := nI 1) hx hy dX0_add_58 (by decide) ?_
    refine lv_iadd hx hy dX0_add_59 ?_
    refine tI (nI_add (n) (1)) ?_
    refine pX0_size F hI (b := b) hb L_X0_15 dX0_add_60 (fun H locs hI => ?_)
    obtain ⟨c22, ec22⟩ : ∃ z9 : CF, z9 = up c20 2 b (nI (n + 1)) := ⟨_, rfl⟩
    have hI : Iv E s H locs (c22, u.2) := by rw [ec22]; exact hI
    exact rV hQ F (v := c22) hI dX0_add_63 (by rw [addC, ec22, ec20, ec15, ec10, ec5])
  · have h1 : 16 ≤ n := Nat.le_of_not_lt (fun q9 => h1 ((nI_ltI (a := n) (b := 16) (by omega) (by omega)).mpr q9))
    exact absurd h1 (by omega)
set_option maxHeartbeats 400000 in
set_option maxRecDepth 100000 in
theorem kX0_setSource (l : Launch) (E : EV) (u : SS) {b : Nat} (hb : b < 7) (j : Nat) (hj : j < 16) (x y : Int32) : CT l yX0_setSource cX0_setSource 4 none (Rm 2 45) [.ref (eA E (10 + 3 * b)), .int (nI j), .int (x), .int (y)] E u (Q_v E (fun c => c = up (up u.1 (30 + b) (3 * j) x) (30 + b) (3 * j + 1) y) (fun (c : CF) => (c, u.2))) := by
  refine mstart RX0 (by decide +kernel) rfl (Nat.le_of_ble_eq_true rfl) ?_
  intro p e s m args below meth co ls Q hQ F hI hl
  have hx := F.1
  have hy := F.2.1
  have hl : lv_has ls 4 [(0, .ref (eA E (10 + 3 * b))), (1, .int (nI j)), (2, .int (x)), (3, .int (y))] := hl
  refine lv_aload_n hx hy dX0_setSource_0 rfl (lv_at hl 0 rfl) ?_
  refine lv_iload_n hx hy dX0_setSource_1 rfl (lv_at hl 1 rfl) ?_
  refine lv_iconst (v := nI 1) hx hy dX0_setSource_2 (by decide) ?_
  refine lv_iload_n hx hy dX0_setSource_3 rfl (lv_at hl 2 rfl) ?_
  refine zV hI (xV F hI hl (kX0_setNumber l E (u) (b := b) hb (nI j) (nI 1) x) M_X0_37 (rX0 F hI (b := b) hb) rfl ⟨Nat.le_of_ble_eq_true rfl, Nat.le_of_ble_eq_true rfl⟩ ⟨Nat.zero_le _, Nat.zero_le _⟩ rfl (Nat.le_of_ble_eq_true rfl) dX0_setSource_4) (fun v3 H locs hI hp1 => ?_)
  rw [show nI j * nI 3 + nI 1 - nI 1 = nI (3 * j) from ix3 j 0, stE_lt (by omega) (by decide)] at hp1
  subst hp1
  obtain ⟨c4, ec4⟩ : ∃ z9 : CF, z9 = up u.1 (30 + b) (3 * j) (x) := ⟨_, rfl⟩
  have hI : Iv E s H locs (c4, u.2) := by rw [ec4]; exact hI
  refine lv_aload_n hx hy dX0_setSource_7 rfl (lv_at hl 0 rfl) ?_
  refine lv_iload_n hx hy dX0_setSource_8 rfl (lv_at hl 1 rfl) ?_
  refine lv_iconst (v := nI 2) hx hy dX0_setSource_9 (by decide) ?_
  refine lv_iload_n hx hy dX0_setSource_10 rfl (lv_at hl 3 rfl) ?_
  refine zV hI (xV F hI hl (kX0_setNumber l E ((c4, u.2)) (b := b) hb (nI j) (nI 2) y) M_X0_37 (rX0 F hI (b := b) hb) rfl ⟨Nat.le_of_ble_eq_true rfl, Nat.le_of_ble_eq_true rfl⟩ ⟨Nat.zero_le _, Nat.zero_le _⟩ rfl (Nat.le_of_ble_eq_true rfl) dX0_setSource_11) (fun v7 H locs hI hp5 => ?_)
  rw [show nI j * nI 3 + nI 2 - nI 1 = nI (3 * j + 1) from ix3 j 1, stE_lt (by omega) (by decide)] at hp5
  subst hp5
  obtain ⟨c8, ec8⟩ : ∃ z9 : CF, z9 = up c4 (30 + b) (3 * j + 1) (y) := ⟨_, rfl⟩
  have hI : Iv E s H locs (c8, u.2) := by rw [ec8]; exact hI
  exact rV hQ F (v := c8) hI dX0_setSource_14 (by rw [ec8, ec4])
set_option maxHeartbeats 400000 in
set_option maxRecDepth 100000 in
theorem kX0_dropLast (l : Launch) (E : EV) (u : SS) {b n : Nat} (hb : b < 7) (hn : u.1 2 b = nI (n + 1)) (h16 : n < 16) : CT l yX0_dropLast cX0_dropLast 1 none (Rm 0 0) [.ref (eA E (10 + 3 * b))] E u (Q_v E (fun c => c = up u.1 2 b (nI n)) (fun (c : CF) => (c, u.2))) := by
  refine mstart RX0 (by decide +kernel) rfl (Nat.le_of_ble_eq_true rfl) ?_
  intro p e s m args below meth co ls Q hQ F hI hl
  have hx := F.1
  have hy := F.2.1
  have hl : lv_has ls 1 [(0, .ref (eA E (10 + 3 * b)))] := hl
  refine lv_aload_n hx hy dX0_dropLast_0 rfl (lv_at hl 0 rfl) ?_
  refine gX0_size F hI (b := b) hb L_X0_15 dX0_dropLast_1 ?_
  refine tI hn ?_
  refine lv_if_le (tgt := 17) hx hy dX0_dropLast_4 (by decide) (fun h1 => ?_) (fun h1 => ?_)
  · have h1 : n + 1 ≤ 0 := (nI_leI (a := n + 1) (b := 0) (by omega) (by omega)).mp h1
    exact absurd h1 (by omega)
  · have h1 : 0 < n + 1 := Nat.lt_of_not_le (fun q9 => h1 ((nI_leI (a := n + 1) (b := 0) (by omega) (by omega)).mpr q9))
    refine lv_aload_n hx hy dX0_dropLast_7 rfl (lv_at hl 0 rfl) ?_
    refine lv_dup hx hy dX0_dropLast_8 rfl ?_
    refine gX0_size F hI (b := b) hb L_X0_15 dX0_dropLast_9 ?_
    refine tI hn ?_
    refine lv_iconst (v := nI 1) hx hy dX0_dropLast_12 (by decide) ?_
    refine lv_isub hx hy dX0_dropLast_13 ?_
    refine tI (pk_sub (a := n + 1) (b := 1) (by omega)) ?_
    refine pX0_size F hI (b := b) hb L_X0_15 dX0_dropLast_14 (fun H locs hI => ?_)
    obtain ⟨c2, ec2⟩ : ∃ z9 : CF, z9 = up u.1 2 b (nI ((n + 1) - 1)) := ⟨_, rfl⟩
    have hI : Iv E s H locs (c2, u.2) := by rw [ec2]; exact hI
    exact rV hQ F (v := c2) hI dX0_dropLast_17 ec2
set_option maxHeartbeats 400000 in
set_option maxRecDepth 100000 in
theorem kX0_addAll (l : Launch) (E : EV) (u : SS) {b b2 m0 n : Nat} (hb : b < 7) (hb2 : b2 < 7) (hne : b ≠ b2) (hm : u.1 2 b = nI m0) (hn : u.1 2 b2 = nI n) (h16 : m0 + n ≤ 16) : CT l yX0_addAll cX0_addAll 3 none (Rm 3 69) [.ref (eA E (10 + 3 * b)), .ref (eA E (10 + 3 * b2))] E u (Q_v E (fun c => CopyP b b2 m0 n u.1 c) (fun (c : CF) => (c, u.2))) := by
  refine mstart RX0 (by decide +kernel) rfl (Nat.le_of_ble_eq_true rfl) ?_
  intro p e s m args below meth co ls Q hQ F hI hl
  have hx := F.1
  have hy := F.2.1
  have hl : lv_has ls 3 [(0, .ref (eA E (10 + 3 * b))), (1, .ref (eA E (10 + 3 * b2)))] := hl
  refine lv_iconst (v := nI 0) hx hy dX0_addAll_0 (by decide) ?_
  refine lv_istore_n (lv' := [(2, .int (nI 0)), (0, .ref (eA E (10 + 3 * b))), (1, .ref (eA E (10 + 3 * b2)))]) hx hy dX0_addAll_1 rfl hl (by decide) rfl (fun ls hl => ?_)
  have lp1 : ∀ (fu : Nat) (i : Nat) (c : CF), (i ≤ n) → (n - i < fu) → (CopyP b b2 m0 i u.1 c) →  ∀ (H : Heap) (locs : List Loc) (ls : Array Slot), Iv E s H locs ((c, u.2)) → lv_has ls 3 [(2, .int (nI i)), (0, .ref (eA E (10 + 3 * b))), (1, .ref (eA E (10 + 3 * b2)))] → W p l e (Rm 3 69) s m args below meth co H locs 0 0 Q (F0 m 2 ls []) := by
    intro fu
    induction fu with
    | zero => intro i c hi hf hC; exact absurd hf (Nat.not_lt_zero _)
    | succ fu ih =>
      intro i c hi hf hC H locs ls hI hl
      have hs2 : c 2 b2 = nI n := (hC.src hb hb2 hne).1.trans hn
      have ih_2 := ih
      refine lv_iload_n hx hy dX0_addAll_2 rfl (lv_at hl 0 rfl) ?_
      refine lv_aload_n hx hy dX0_addAll_3 rfl (lv_at hl 2 rfl) ?_
      refine gX0_size F hI (b := b2) hb2 L_X0_15 dX0_addAll_4 ?_
      refine tI (show _ = c 2 b2 from rfl) ?_
      refine tI hs2 ?_
      refine lv_icmp_ge (tgt := 43) hx hy dX0_addAll_7 (by decide) (fun h2 => ?_) (fun h2 => ?_)
      · have h2 : n ≤ i := (nI_leI (a := n) (b := i) (by omega) (by omega)).mp h2
        exact rV hQ F (v := c) hI dX0_addAll_43 (by have e9 : i = n := (by omega); rw [← e9]; exact hC)
      · have h2 : i < n := Nat.lt_of_not_le (fun q9 => h2 ((nI_leI (a := n) (b := i) (by omega) (by omega)).mpr q9))
        refine lv_aload_n hx hy dX0_addAll_10 rfl (lv_at hl 1 rfl) ?_
        refine lv_aload_n hx hy dX0_addAll_11 rfl (lv_at hl 2 rfl) ?_
        refine lv_iload_n hx hy dX0_addAll_12 rfl (lv_at hl 0 rfl) ?_
        refine zI hI (xV F hI hl (kX0_kindOf l E ((c, u.2)) (b := b2) hb2 (nI i)) M_X0_33 (rX0 F hI (b := b2) hb2) rfl ⟨Nat.le_of_ble_eq_true rfl, Nat.le_of_ble_eq_true rfl⟩ ⟨Nat.zero_le _, Nat.zero_le _⟩ rfl (Nat.le_of_ble_eq_true rfl) dX0_addAll_13) (fun r4 v5 H locs hI hp3 => ?_)
        rw [el_lt (by omega) (by decide)] at hp3
        subst hp3
        refine tI (show _ = c (20 + b2) i from rfl) ?_
        refine lv_aload_n hx hy dX0_addAll_16 rfl (lv_at hl 2 rfl) ?_
        refine lv_iload_n hx hy dX0_addAll_17 rfl (lv_at hl 0 rfl) ?_
        refine lv_iconst (v := nI 1) hx hy dX0_addAll_18 (by decide) ?_
        refine zI hI (xV F hI hl (kX0_numberOf l E ((c, u.2)) (b := b2) hb2 (nI i) (nI 1)) M_X0_41 (rX0 F hI (b := b2) hb2) rfl ⟨Nat.le_of_ble_eq_true rfl, Nat.le_of_ble_eq_true rfl⟩ ⟨Nat.zero_le _, Nat.zero_le _⟩ rfl (Nat.le_of_ble_eq_true rfl) dX0_addAll_19) (fun r7 v8 H locs hI hp6 => ?_)
        rw [show nI i * nI 3 + nI 1 - nI 1 = nI (3 * i) from ix3 i 0, el_lt (by omega) (by decide)] at hp6
        subst hp6
        refine tI (show _ = c (30 + b2) (3 * i) from rfl) ?_
        refine lv_aload_n hx hy dX0_addAll_22 rfl (lv_at hl 2 rfl) ?_
        refine lv_iload_n hx hy dX0_addAll_23 rfl (lv_at hl 0 rfl) ?_
        refine lv_iconst (v := nI 2) hx hy dX0_addAll_24 (by decide) ?_
        refine zI hI (xV F hI hl (kX0_numberOf l E ((c, u.2)) (b := b2) hb2 (nI i) (nI 2)) M_X0_41 (rX0 F hI (b := b2) hb2) rfl ⟨Nat.le_of_ble_eq_true rfl, Nat.le_of_ble_eq_true rfl⟩ ⟨Nat.zero_le _, Nat.zero_le _⟩ rfl (Nat.le_of_ble_eq_true rfl) dX0_addAll_25) (fun r10 v11 H locs hI hp9 => ?_)
        rw [show nI i * nI 3 + nI 2 - nI 1 = nI (3 * i + 1) from ix3 i 1, el_lt (by omega) (by decide)] at hp9
        subst hp9
        refine tI (show _ = c (30 + b2) (3 * i + 1) from rfl) ?_
        refine lv_aload_n hx hy dX0_addAll_28 rfl (lv_at hl 2 rfl) ?_
        refine lv_iload_n hx hy dX0_addAll_29 rfl (lv_at hl 0 rfl) ?_
        refine lv_iconst (v := nI 3) hx hy dX0_addAll_30 (by decide) ?_
        refine zI hI (xV F hI hl (kX0_numberOf l E ((c, u.2)) (b := b2) hb2 (nI i) (nI 3)) M_X0_41 (rX0 F hI (b := b2) hb2) rfl ⟨Nat.le_of_ble_eq_true rfl, Nat.le_of_ble_eq_true rfl⟩ ⟨Nat.zero_le _, Nat.zero_le _⟩ rfl (Nat.le_of_ble_eq_true rfl) dX0_addAll_31) (fun r13 v14 H locs hI hp12 => ?_)
        rw [show nI i * nI 3 + nI 3 - nI 1 = nI (3 * i + 2) from ix3 i 2, el_lt (by omega) (by decide)] at hp12
        subst hp12
        refine tI (show _ = c (30 + b2) (3 * i + 2) from rfl) ?_
        refine zV hI (xV F hI hl (kX0_add l E ((c, u.2)) (b := b) hb hC.1 (by omega) (c (20 + b2) i) (c (30 + b2) (3 * i)) (c (30 + b2) (3 * i + 1)) (c (30 + b2) (3 * i + 2))) M_X0_45 (rX0 F hI (b := b) hb) rfl ⟨Nat.le_of_ble_eq_true rfl, Nat.le_of_ble_eq_true rfl⟩ ⟨Nat.zero_le _, Nat.zero_le _⟩ rfl (Nat.le_of_ble_eq_true rfl) dX0_addAll_34) (fun v17 H locs hI hp15 => ?_)
        subst hp15
        obtain ⟨c18, ec18⟩ : ∃ z9 : CF, z9 = addC b (m0 + i) (c (20 + b2) i) (c (30 + b2) (3 * i)) (c (30 + b2) (3 * i + 1)) (c (30 + b2) (3 * i + 2)) c := ⟨_, rfl⟩
        have hI : Iv E s H locs (c18, u.2) := by rw [ec18]; exact hI
        refine lv_iinc (v := nI (i + 1)) (lv' := [(2, .int (nI (i + 1))), (0, .ref (eA E (10 + 3 * b))), (1, .ref (eA E (10 + 3 * b2)))]) hx hy dX0_addAll_37 hl (k := 0) rfl (nI_add (i) 1) (by decide) rfl (fun ls hl => ?_)
        refine lv_goto (tgt := 2) hx hy dX0_addAll_40 (by decide) ?_
        exact ih_2 (i + 1) c18 (by omega) (by omega) (hC.step hb hb2 hne ec18) _ _ _ hI (lv_sub hl [0, 1, 2] rfl)
  exact lp1 (n + 1) 0 u.1 (Nat.zero_le _) (by omega) (CopyP.start hm) _ _ _ hI (lv_sub hl [0, 1, 2] rfl)
set_option maxHeartbeats 400000 in
set_option maxRecDepth 100000 in
theorem kX0_copyFrom (l : Launch) (E : EV) (u : SS) {b b2 n : Nat} (hb : b < 7) (hb2 : b2 < 7) (hne : b ≠ b2) (hn : u.1 2 b2 = nI n) (h16 : n ≤ 16) : CT l yX0_copyFrom cX0_copyFrom 2 none (Rm 4 91) [.ref (eA E (10 + 3 * b)), .ref (eA E (10 + 3 * b2))] E u (Q_v E (fun c => CopyOf b b2 u.1 c) (fun (c : CF) => (c, u.2))) := by
  refine mstart RX0 (by decide +kernel) rfl (Nat.le_of_ble_eq_true rfl) ?_
  intro p e s m args below meth co ls Q hQ F hI hl
  have hx := F.1
  have hy := F.2.1
  have hl : lv_has ls 2 [(0, .ref (eA E (10 + 3 * b))), (1, .ref (eA E (10 + 3 * b2)))] := hl
  refine lv_aload_n hx hy dX0_copyFrom_0 rfl (lv_at hl 0 rfl) ?_
  refine lv_aload_n hx hy dX0_copyFrom_1 rfl (lv_at hl 1 rfl) ?_
  refine gX0_length F hI (b := b2) hb2 L_X0_9 dX0_copyFrom_2 ?_
  refine pX0_length F hI (b := b) hb L_X0_9 dX0_copyFrom_5 (fun H locs hI => ?_)
  obtain ⟨c1, ec1⟩ : ∃ z9 : CF, z9 = up u.1 1 b (u.1 1 b2) := ⟨_, rfl⟩
  have hI : Iv E s H locs (c1, u.2) := by rw [ec1]; exact hI
  have kf2 : c1 2 b2 = nI n := by rw [ec1, up_at, if_neg (by omega)]; exact hn
  refine lv_aload_n hx hy dX0_copyFrom_8 rfl (lv_at hl 0 rfl) ?_
  refine lv_iconst (v := nI 0) hx hy dX0_copyFrom_9 (by decide) ?_
  refine pX0_size F hI (b := b) hb L_X0_15 dX0_copyFrom_10 (fun H locs hI => ?_)
  obtain ⟨c3, ec3⟩ : ∃ z9 : CF, z9 = up c1 2 b (nI 0) := ⟨_, rfl⟩
  have hI : Iv E s H locs (c3, u.2) := by rw [ec3]; exact hI
  have kf4 : c3 2 b2 = nI n := by rw [ec3, up_at, if_neg (by omega)]; exact kf2
  refine lv_aload_n hx hy dX0_copyFrom_13 rfl (lv_at hl 0 rfl) ?_
  refine lv_aload_n hx hy dX0_copyFrom_14 rfl (lv_at hl 1 rfl) ?_
  refine zV hI (xV F hI hl (kX0_addAll l E ((c3, u.2)) (b := b) (b2 := b2) (m0 := 0) (n := n) hb hb2 (by omega) (show c3 2 b = nI 0 by rw [ec3]; exact up_s _ _ _ _) kf4 (by omega)) M_X0_49 (rX0 F hI (b := b) hb) rfl ⟨Nat.le_of_ble_eq_true rfl, Nat.le_of_ble_eq_true rfl⟩ ⟨Nat.zero_le _, Nat.zero_le _⟩ rfl (Nat.le_of_ble_eq_true rfl) dX0_copyFrom_15) (fun v7 H locs hI hp5 => ?_)
  exact rV hQ F (v := v7) hI dX0_copyFrom_18 (CopyOf.mk' hb hb2 hne h16 hn ec1 ec3 hp5)
set_option maxHeartbeats 400000 in
set_option maxRecDepth 100000 in
theorem kX0_sources (l : Launch) (E : EV) (u : SS) {b n : Nat} {f : Nat → Ln} (hb : b < 7) (hR : RepL b u.1 n f) (h16 : n ≤ 16) (hk : ∀ j, j < n → (f j).1 ≤ 6) : CT l yX0_sources cX0_sources 3 (some .int) (Rm 2 42) [.ref (eA E (10 + 3 * b))] E u (Q_i E (fun r _ => r = nI (fb_ct (fun j => decide ((f j).1 = 0)) n)) (fun (_ : Unit) => u)) := by
  refine mstart RX0 (by decide +kernel) rfl (Nat.le_of_ble_eq_true rfl) ?_
  intro p e s m args below meth co ls Q hQ F hI hl
  have hx := F.1
  have hy := F.2.1
  have hl : lv_has ls 3 [(0, .ref (eA E (10 + 3 * b)))] := hl
  refine lv_iconst (v := nI 0) hx hy dX0_sources_0 (by decide) ?_
  refine lv_istore_n (lv' := [(1, .int (nI 0)), (0, .ref (eA E (10 + 3 * b)))]) hx hy dX0_sources_1 rfl hl (by decide) rfl (fun ls hl => ?_)
  refine lv_iconst (v := nI 0) hx hy dX0_sources_2 (by decide) ?_
  refine lv_istore_n (lv' := [(2, .int (nI 0)), (1, .int (nI 0)), (0, .ref (eA E (10 + 3 * b)))]) hx hy dX0_sources_3 rfl hl (by decide) rfl (fun ls hl => ?_)
  have lp1 : ∀ (fu : Nat) (i : Nat), (i ≤ n) → (n - i < fu) →  ∀ (H : Heap) (locs : List Loc) (ls : Array Slot), Iv E s H locs (u) → lv_has ls 3 [(2, .int (nI i)), (1, .int (nI ((fb_ct (fun j => decide ((f j).1 = 0)) i)))), (0, .ref (eA E (10 + 3 * b)))] → W p l e (Rm 2 42) s m args below meth co H locs 0 0 Q (F0 m 4 ls []) := by
    intro fu
    induction fu with
    | zero => intro i hi hf; exact absurd hf (Nat.not_lt_zero _)
    | succ fu ih =>
      intro i hi hf H locs ls hI hl
      have ih_4 := ih
      refine lv_iload_n hx hy dX0_sources_4 rfl (lv_at hl 0 rfl) ?_
      refine lv_aload_n hx hy dX0_sources_5 rfl (lv_at hl 2 rfl) ?_
      refine gX0_size F hI (b := b) hb L_X0_15 dX0_sources_6 ?_
      refine tI hR.1 ?_
      refine lv_icmp_ge (tgt := 29) hx hy dX0_sources_9 (by decide) (fun h2 => ?_) (fun h2 => ?_)
      · have h2 : n ≤ i := (nI_leI (a := n) (b := i) (by omega) (by omega)).mp h2
        refine lv_iload_n hx hy dX0_sources_29 rfl (lv_at hl 1 rfl) ?_
        exact rI hQ F (v := ()) hI dX0_sources_30 (by rw [show i = n from by omega])
      · have h2 : i < n := Nat.lt_of_not_le (fun q9 => h2 ((nI_leI (a := n) (b := i) (by omega) (by omega)).mpr q9))
        refine lv_aload_n hx hy dX0_sources_12 rfl (lv_at hl 2 rfl) ?_
        refine lv_iload_n hx hy dX0_sources_13 rfl (lv_at hl 0 rfl) ?_
        refine zI hI (xV F hI hl (kX0_kindOf l E (u) (b := b) hb (nI i)) M_X0_33 (rX0 F hI (b := b) hb) rfl ⟨Nat.le_of_ble_eq_true rfl, Nat.le_of_ble_eq_true rfl⟩ ⟨Nat.zero_le _, Nat.zero_le _⟩ rfl (Nat.le_of_ble_eq_true rfl) dX0_sources_14) (fun r4 v5 H locs hI hp3 => ?_)
        rw [el_lt (by omega) (by decide)] at hp3
        subst hp3
        refine tI (hR.2 i (by omega)).1 ?_
        refine lv_if_ne (tgt := 23) hx hy dX0_sources_17 (by decide) (fun h6 => ?_) (fun h6 => ?_)
        · have h6 : (f i).1 ≠ 0 := fun q9 => h6 ((nI_eq (a := (f i).1) (b := 0) (by have := hk i (by omega); omega) (by omega)).mpr q9)
          have e7 : fb_ct (fun j => decide ((f j).1 = 0)) (i + 1) = (fb_ct (fun j => decide ((f j).1 = 0)) i) := by rw [fb_ct_succ, if_neg (by simpa using h6), Nat.add_zero]
          rw [← e7] at hl
          refine lv_iinc (v := nI (i + 1)) (lv' := [(2, .int (nI (i + 1))), (1, .int (nI ((fb_ct (fun j => decide ((f j).1 = 0)) (i + 1))))), (0, .ref (eA E (10 + 3 * b)))]) hx hy dX0_sources_23 hl (k := 0) rfl (nI_add (i) 1) (by decide) rfl (fun ls hl => ?_)
          refine lv_goto (tgt := 4) hx hy dX0_sources_26 (by decide) ?_
          exact ih_4 (i + 1) (by omega) (by omega) _ _ _ hI (lv_sub hl [0, 1, 2] rfl)
        · have h6 : (f i).1 = 0 := (nI_eq (a := (f i).1) (b := 0) (by have := hk i (by omega); omega) (by omega)).mp h6
          refine lv_iinc (v := nI ((fb_ct (fun j => decide ((f j).1 = 0)) i) + 1)) (lv' := [(1, .int (nI ((fb_ct (fun j => decide ((f j).1 = 0)) i) + 1))), (2, .int (nI i)), (0, .ref (eA E (10 + 3 * b)))]) hx hy dX0_sources_20 hl (k := 1) rfl (nI_add ((fb_ct (fun j => decide ((f j).1 = 0)) i)) 1) (by decide) rfl (fun ls hl => ?_)
          have e8 : fb_ct (fun j => decide ((f j).1 = 0)) (i + 1) = (fb_ct (fun j => decide ((f j).1 = 0)) i) + 1 := by rw [fb_ct_succ, if_pos (decide_eq_true h6)]
          rw [← e8] at hl
          refine lv_iinc (v := nI (i + 1)) (lv' := [(2, .int (nI (i + 1))), (1, .int (nI ((fb_ct (fun j => decide ((f j).1 = 0)) (i + 1))))), (0, .ref (eA E (10 + 3 * b)))]) hx hy dX0_sources_23 hl (k := 1) rfl (nI_add (i) 1) (by decide) rfl (fun ls hl => ?_)
          refine lv_goto (tgt := 4) hx hy dX0_sources_26 (by decide) ?_
          exact ih_4 (i + 1) (by omega) (by omega) _ _ _ hI (lv_sub hl [0, 1, 2] rfl)
  exact lp1 (n + 1) 0 (Nat.zero_le _) (by omega) _ _ _ hI (lv_sub hl [0, 1, 2] rfl)
end
section
set_option maxHeartbeats 400000 in
set_option maxRecDepth 100000 in
theorem kJ9_floorMod_7cf53 (l : Launch) (E : EV) (u : SS) (a : Nat) (ha : a < 9) : CT l yJ9_floorMod_7cf53 cJ9_floorMod_7cf53 3 (some .int) (Rm 0 0) [.int (nI a), .int (nI 4)] E u (Q_i E (fun r _ => r = nI (a % 4)) (fun (_ : Unit) => u)) := by
  refine mstartF RJ9 (by decide +kernel) rfl (Nat.le_of_ble_eq_true rfl) ?_
  intro p e s m args below meth co ls Q hQ F hI hl
  have hx := F.1
  have hy := F.2.1
  have hl : lv_has ls 3 [(0, .int (nI a)), (1, .int (nI 4))] := hl
  refine lv_iload_n hx hy dJ9_floorMod_7cf53_0 rfl (lv_at hl 0 rfl) ?_
  refine lv_iload_n hx hy dJ9_floorMod_7cf53_1 rfl (lv_at hl 1 rfl) ?_
  refine lv_irem hx hy dJ9_floorMod_7cf53_2 (fun q => absurd ((nI_eq (by omega) (by omega)).mp (show nI (4) = nI 0 from q)) (by omega)) ?_
  refine tI (pk_rem (a := a) (d := 4) (by omega) (by omega) (by omega)) ?_
  refine lv_istore_n (lv' := [(2, .int (nI (a % 4))), (0, .int (nI a)), (1, .int (nI 4))]) hx hy dJ9_floorMod_7cf53_3 rfl hl (by decide) rfl (fun ls hl => ?_)
  refine lv_iload_n hx hy dJ9_floorMod_7cf53_4 rfl (lv_at hl 1 rfl) ?_
  refine lv_iload_n hx hy dJ9_floorMod_7cf53_5 rfl (lv_at hl 2 rfl) ?_
  refine lv_ixor hx hy dJ9_floorMod_7cf53_6 ?_
  refine lv_if_ge (tgt := 18) hx hy dJ9_floorMod_7cf53_7 (by decide) (fun h1 => ?_) (fun h1 => ?_)
  · refine lv_iload_n hx hy dJ9_floorMod_7cf53_18 rfl (lv_at hl 0 rfl) ?_
    exact rI hQ F (v := ()) hI dJ9_floorMod_7cf53_19 rfl
  · exact absurd (fm_nn a ha) h1
set_option maxHeartbeats 400000 in
set_option maxRecDepth 100000 in
theorem kX3_stateAt (l : Launch) (E : EV) (u : SS) {o : Nat} (a : Nat) (ho : u.1 0 1 = nI o) (ho4 : o < 4) (ha : a ≤ 4) : CT l yX3_stateAt cX3_stateAt 3 (some (.object "ShareStreams$Bench")) (Rm 1 22) [.ref (eA E 1), .int (nI a)] E u (Q_q E (fun r _ => r = some (eA E (10 + 3 * (3 + (o + a) % 4)))) (fun (_ : Unit) => u)) := by
  refine mstart RX3 (by decide +kernel) rfl (Nat.le_of_ble_eq_true rfl) ?_
  intro p e s m args below meth co ls Q hQ F hI hl
  have hx := F.1
  have hy := F.2.1
  have hl : lv_has ls 3 [(0, .ref (eA E 1)), (1, .int (nI a))] := hl
  refine lv_aload_n hx hy dX3_stateAt_0 rfl (lv_at hl 0 rfl) ?_
  refine gX3_oldest F hI L_X3_17 dX3_stateAt_1 ?_
  refine tI ho ?_
  refine lv_iload_n hx hy dX3_stateAt_4 rfl (lv_at hl 1 rfl) ?_
  refine lv_iadd hx hy dX3_stateAt_5 ?_
  refine tI (nI_add (o) (a)) ?_
  refine lv_iconst (v := nI 4) hx hy dX3_stateAt_6 (by decide) ?_
  refine zI hI (xS F hI hl (kJ9_floorMod_7cf53 l E (u) (o + a) (by omega)) M_X3_33 rfl ⟨Nat.le_of_ble_eq_true rfl, Nat.le_of_ble_eq_true rfl⟩ ⟨Nat.zero_le _, Nat.zero_le _⟩ rfl (Nat.le_of_ble_eq_true rfl) dX3_stateAt_7) (fun r2 v3 H locs hI hp1 => ?_)
  subst hp1
  refine lv_istore_n (lv' := [(2, .int (nI ((o + a) % 4))), (0, .ref (eA E 1)), (1, .int (nI a))]) hx hy dX3_stateAt_10 rfl hl (by decide) rfl (fun ls hl => ?_)
  refine lv_iload_n hx hy dX3_stateAt_11 rfl (lv_at hl 0 rfl) ?_
  refine lv_if_lt (tgt := 24) hx hy dX3_stateAt_12 (by decide) (fun h4 => ?_) (fun h4 => ?_)
  · have h4 : (o + a) % 4 < 0 := (nI_ltI (a := (o + a) % 4) (b := 0) (by omega) (by omega)).mp h4
    exact absurd h4 (by omega)
  · have h4 : 0 ≤ (o + a) % 4 := Nat.le_of_not_lt (fun q9 => h4 ((nI_ltI (a := (o + a) % 4) (b := 0) (by omega) (by omega)).mpr q9))
    refine lv_iload_n hx hy dX3_stateAt_15 rfl (lv_at hl 0 rfl) ?_
    refine lv_aload_n hx hy dX3_stateAt_16 rfl (lv_at hl 1 rfl) ?_
    refine gX3_states F hI L_X3_11 dX3_stateAt_17 ?_
    refine aSn F hI dX3_stateAt_20 ?_
    refine lv_icmp_lt (tgt := 28) hx hy dX3_stateAt_21 (by decide) (fun h5 => ?_) (fun h5 => ?_)
    · have h5 : (o + a) % 4 < 4 := (nI_ltI (a := (o + a) % 4) (b := 4) (by omega) (by omega)).mp h5
      refine lv_aload_n hx hy dX3_stateAt_28 rfl (lv_at hl 1 rfl) ?_
      refine gX3_states F hI L_X3_11 dX3_stateAt_29 ?_
      refine lv_iload_n hx hy dX3_stateAt_32 rfl (lv_at hl 0 rfl) ?_
      refine aSl F hI (i := (o + a) % 4) (by omega) dX3_stateAt_33 ?_
      exact rQ hQ F (v := ()) hI dX3_stateAt_34 (congrArg some (congrArg (eA E) (by omega)))
    · have h5 : 4 ≤ (o + a) % 4 := Nat.le_of_not_lt (fun q9 => h5 ((nI_ltI (a := (o + a) % 4) (b := 4) (by omega) (by omega)).mpr q9))
      exact absurd h5 (by omega)
set_option maxHeartbeats 400000 in
set_option maxRecDepth 100000 in
theorem kX3_push (l : Launch) (E : EV) (u : SS) {o z n : Nat} (ho : u.1 0 1 = nI o) (ho4 : o < 4) (hz : u.1 0 2 = nI z) (hz4 : z ≤ 4) (hn : u.1 2 0 = nI n) (h16 : n ≤ 16) : CT l yX3_push cX3_push 3 none (Rm 5 112) [.ref (eA E 1), .ref (eA E (10 + 3 * 0))] E u (Q_v E (fun c => PushP o z u.1 c) (fun (c : CF) => (c, u.2))) := by
  refine mstart RX3 (by decide +kernel) rfl (Nat.le_of_ble_eq_true rfl) ?_
  intro p e s m args below meth co ls Q hQ F hI hl
  have hx := F.1
  have hy := F.2.1
  have hl : lv_has ls 3 [(0, .ref (eA E 1)), (1, .ref (eA E (10 + 3 * 0)))] := hl
  refine lv_aload_n hx hy dX3_push_0 rfl (lv_at hl 0 rfl) ?_
  refine lv_aload_n hx hy dX3_push_1 rfl (lv_at hl 0 rfl) ?_
  refine gX3_size F hI L_X3_21 dX3_push_2 ?_
  refine tI hz ?_
  refine zQ hI (xV F hI hl (kX3_stateAt l E (u) z ho (by omega) (by omega)) M_X3_25 (rX3 F hI) rfl ⟨Nat.le_of_ble_eq_true rfl, Nat.le_of_ble_eq_true rfl⟩ ⟨Nat.zero_le _, Nat.zero_le _⟩ rfl (Nat.le_of_ble_eq_true rfl) dX3_push_5) (fun r2 v3 H locs hI hp1 => ?_)
  subst hp1
  refine tV (show va_rf (some (eA E (10 + 3 * (3 + (o + z) % 4)))) = .ref (eA E (10 + 3 * (3 + (o + z) % 4))) from rfl) ?_
  refine lv_astore_n (lv' := [(2, .ref (eA E (10 + 3 * (3 + (o + z) % 4)))), (0, .ref (eA E 1)), (1, .ref (eA E (10 + 3 * 0)))]) hx hy dX3_push_8 rfl hl (by decide) rfl (fun ls hl => ?_)
  refine lv_aload_n hx hy dX3_push_9 rfl (lv_at hl 0 rfl) ?_
  refine lv_ifnonnull (tgt := 14) hx hy dX3_push_10 (by decide) ?_
  refine lv_aload_n hx hy dX3_push_14 rfl (lv_at hl 0 rfl) ?_
  refine lv_aload_n hx hy dX3_push_15 rfl (lv_at hl 2 rfl) ?_
  refine zV hI (xV F hI hl (kX0_copyFrom l E (u) (b := (3 + (o + z) % 4)) (b2 := 0) (n := n) (by omega) (by decide) (by omega) hn (by omega)) M_X3_29 (rX0 F hI (b := (3 + (o + z) % 4)) (by omega)) rfl ⟨Nat.le_of_ble_eq_true rfl, Nat.le_of_ble_eq_true rfl⟩ ⟨Nat.zero_le _, Nat.zero_le _⟩ rfl (Nat.le_of_ble_eq_true rfl) dX3_push_16) (fun v6 H locs hI hp4 => ?_)
  have kf7 : v6 0 1 = nI o := (hp4.z 1).trans ho
  have kf8 : v6 0 2 = nI z := (hp4.z 2).trans hz
  refine lv_aload_n hx hy dX3_push_19 rfl (lv_at hl 1 rfl) ?_
  refine gX3_size F hI L_X3_21 dX3_push_20 ?_
  refine tI (show _ = v6 0 2 from rfl) ?_
  refine tI kf8 ?_
  refine lv_iconst (v := nI 4) hx hy dX3_push_23 (by decide) ?_
  refine lv_icmp_ge (tgt := 40) hx hy dX3_push_24 (by decide) (fun h9 => ?_) (fun h9 => ?_)
  · have h9 : 4 ≤ z := (nI_leI (a := 4) (b := z) (by omega) (by omega)).mp h9
    refine lv_aload_n hx hy dX3_push_40 rfl (lv_at hl 1 rfl) ?_
    refine lv_aload_n hx hy dX3_push_41 rfl (lv_at hl 1 rfl) ?_
    refine gX3_oldest F hI L_X3_17 dX3_push_42 ?_
    refine tI (show _ = v6 0 1 from rfl) ?_
    refine tI kf7 ?_
    refine lv_iconst (v := nI 1) hx hy dX3_push_45 (by decide) ?_
    refine lv_iadd hx hy dX3_push_46 ?_
    refine tI (nI_add (o) (1)) ?_
    refine lv_iconst (v := nI 4) hx hy dX3_push_47 (by decide) ?_
    refine lv_irem hx hy dX3_push_48 (fun q => absurd ((nI_eq (by omega) (by omega)).mp (show nI (4) = nI 0 from q)) (by omega)) ?_
    refine tI (pk_rem (a := o + 1) (d := 4) (by omega) (by omega) (by omega)) ?_
    refine pX3_oldest F hI L_X3_17 dX3_push_49 (fun H locs hI => ?_)
    obtain ⟨c10, ec10⟩ : ∃ z9 : CF, z9 = up v6 0 1 (nI ((o + 1) % 4)) := ⟨_, rfl⟩
    have hI : Iv E s H locs (c10, u.2) := by rw [ec10]; exact hI
    exact rV hQ F (v := c10) hI dX3_push_52 ⟨_, hp4, by rw [if_neg (by omega)]; exact ec10⟩
  · have h9 : z < 4 := Nat.lt_of_not_le (fun q9 => h9 ((nI_leI (a := 4) (b := z) (by omega) (by omega)).mpr q9))
    refine lv_aload_n hx hy dX3_push_27 rfl (lv_at hl 1 rfl) ?_
    refine lv_dup hx hy dX3_push_28 rfl ?_
    refine gX3_size F hI L_X3_21 dX3_push_29 ?_
    refine tI (show _ = v6 0 2 from rfl) ?_
    refine tI kf8 ?_
    refine lv_iconst (v := nI 1) hx hy dX3_push_32 (by decide) ?_
    refine lv_iadd hx hy dX3_push_33 ?_
    refine tI (nI_add (z) (1)) ?_
    refine pX3_size F hI L_X3_21 dX3_push_34 (fun H locs hI => ?_)
    obtain ⟨c11, ec11⟩ : ∃ z9 : CF, z9 = up v6 0 2 (nI (z + 1)) := ⟨_, rfl⟩
    have hI : Iv E s H locs (c11, u.2) := by rw [ec11]; exact hI
    refine lv_goto (tgt := 52) hx hy dX3_push_37 (by decide) ?_
    exact rV hQ F (v := c11) hI dX3_push_52 ⟨_, hp4, by rw [if_pos h9]; exact ec11⟩
set_option maxHeartbeats 400000 in
set_option maxRecDepth 100000 in
theorem kX3_popInto (l : Launch) (E : EV) (u : SS) {o z n : Nat} (ho : u.1 0 1 = nI o) (ho4 : o < 4) (hz : u.1 0 2 = nI (z + 1)) (hz4 : z < 4) (hn : u.1 2 (3 + (o + z) % 4) = nI n) (h16 : n ≤ 16) : CT l yX3_popInto cX3_popInto 3 none (Rm 5 112) [.ref (eA E 1), .ref (eA E (10 + 3 * 0))] E u (Q_v E (fun c => PopP o z u.1 c) (fun (c : CF) => (c, u.2))) := by
  refine mstart RX3 (by decide +kernel) rfl (Nat.le_of_ble_eq_true rfl) ?_
  intro p e s m args below meth co ls Q hQ F hI hl
  have hx := F.1
  have hy := F.2.1
  have hl : lv_has ls 3 [(0, .ref (eA E 1)), (1, .ref (eA E (10 + 3 * 0)))] := hl
  refine lv_aload_n hx hy dX3_popInto_0 rfl (lv_at hl 0 rfl) ?_
  refine lv_aload_n hx hy dX3_popInto_1 rfl (lv_at hl 0 rfl) ?_
  refine gX3_size F hI L_X3_21 dX3_popInto_2 ?_
  refine tI hz ?_
  refine lv_iconst (v := nI 1) hx hy dX3_popInto_5 (by decide) ?_
  refine lv_isub hx hy dX3_popInto_6 ?_
  refine tI (pk_sub (a := z + 1) (b := 1) (by omega)) ?_
  refine tI (show _ = nI z from rfl) ?_
  refine zQ hI (xV F hI hl (kX3_stateAt l E (u) z ho (by omega) (by omega)) M_X3_25 (rX3 F hI) rfl ⟨Nat.le_of_ble_eq_true rfl, Nat.le_of_ble_eq_true rfl⟩ ⟨Nat.zero_le _, Nat.zero_le _⟩ rfl (Nat.le_of_ble_eq_true rfl) dX3_popInto_7) (fun r2 v3 H locs hI hp1 => ?_)
  subst hp1
  refine tV (show va_rf (some (eA E (10 + 3 * (3 + (o + z) % 4)))) = .ref (eA E (10 + 3 * (3 + (o + z) % 4))) from rfl) ?_
  refine lv_astore_n (lv' := [(2, .ref (eA E (10 + 3 * (3 + (o + z) % 4)))), (0, .ref (eA E 1)), (1, .ref (eA E (10 + 3 * 0)))]) hx hy dX3_popInto_10 rfl hl (by decide) rfl (fun ls hl => ?_)
  refine lv_aload_n hx hy dX3_popInto_11 rfl (lv_at hl 1 rfl) ?_
  refine gX3_size F hI L_X3_21 dX3_popInto_12 ?_
  refine tI hz ?_
  refine lv_if_eq (tgt := 22) hx hy dX3_popInto_15 (by decide) (fun h4 => ?_) (fun h4 => ?_)
  · have h4 : z + 1 = 0 := (nI_eq (a := z + 1) (b := 0) (by omega) (by omega)).mp h4
    exact absurd h4 (by omega)
  · have h4 : z + 1 ≠ 0 := fun q9 => h4 ((nI_eq (a := z + 1) (b := 0) (by omega) (by omega)).mpr q9)
    refine lv_aload_n hx hy dX3_popInto_18 rfl (lv_at hl 0 rfl) ?_
    refine lv_ifnonnull (tgt := 23) hx hy dX3_popInto_19 (by decide) ?_
    refine lv_aload_n hx hy dX3_popInto_23 rfl (lv_at hl 2 rfl) ?_
    refine lv_aload_n hx hy dX3_popInto_24 rfl (lv_at hl 0 rfl) ?_
    refine zV hI (xV F hI hl (kX0_copyFrom l E (u) (b := 0) (b2 := (3 + (o + z) % 4)) (n := n) (by decide) (by omega) (by omega) hn (by omega)) M_X3_29 (rX0 F hI (b := 0) (by decide)) rfl ⟨Nat.le_of_ble_eq_true rfl, Nat.le_of_ble_eq_true rfl⟩ ⟨Nat.zero_le _, Nat.zero_le _⟩ rfl (Nat.le_of_ble_eq_true rfl) dX3_popInto_25) (fun v7 H locs hI hp5 => ?_)
    have kf8 : v7 0 1 = nI o := (hp5.z 1).trans ho
    have kf9 : v7 0 2 = nI (z + 1) := (hp5.z 2).trans hz
    refine lv_aload_n hx hy dX3_popInto_28 rfl (lv_at hl 1 rfl) ?_
    refine lv_dup hx hy dX3_popInto_29 rfl ?_
    refine gX3_size F hI L_X3_21 dX3_popInto_30 ?_
    refine tI (show _ = v7 0 2 from rfl) ?_
    refine tI kf9 ?_
    refine lv_iconst (v := nI 1) hx hy dX3_popInto_33 (by decide) ?_
    refine lv_isub hx hy dX3_popInto_34 ?_
    refine tI (pk_sub (a := z + 1) (b := 1) (by omega)) ?_
    refine tI (show _ = nI z from rfl) ?_
    refine pX3_size F hI L_X3_21 dX3_popInto_35 (fun H locs hI => ?_)
    obtain ⟨c10, ec10⟩ : ∃ z9 : CF, z9 = up v7 0 2 (nI z) := ⟨_, rfl⟩
    have hI : Iv E s H locs (c10, u.2) := by rw [ec10]; exact hI
    exact rV hQ F (v := c10) hI dX3_popInto_38 ⟨_, hp5, ec10⟩
end
section
/-! the streams: registers, bits, words of 64 ticks -/
def nr (r : Nat) : Nat := if 2 * r < 256 then 2 * r else (2 * r - 256) ^^^ 29
def reg (z : Nat) : Nat → Nat
  | 0 => z
  | t + 1 => nr (reg z t)
theorem nr_lt {r : Nat} (h : r < 256) : nr r < 256 := by
  unfold nr
  split
  · omega
  · exact Nat.xor_lt_two_pow (n := 8) (by omega) (by decide)
theorem reg_lt {z : Nat} (h : z < 256) : ∀ t, reg z t < 256
  | 0 => h
  | t + 1 => nr_lt (reg_lt h t)
theorem nI_xor (a b : Nat) : nI a ^^^ nI b = nI (a ^^^ b) := by
  apply Int32.toBitVec_inj.mp
  show (nI a).toBitVec ^^^ (nI b).toBitVec = (nI (a ^^^ b)).toBitVec
  apply BitVec.eq_of_getLsbD_eq
  intro i hi
  show ((BitVec.ofNat 32 a) ^^^ (BitVec.ofNat 32 b)).getLsbD i = (BitVec.ofNat 32 (a ^^^ b)).getLsbD i
  simp [hi]
/-- a line's bit at a tick out of those of the lines ahead -/
def bStep (q : Ln) (B : Nat → Nat → Bool) (t : Nat) : Bool :=
  if q.1 = 0 then decide (reg q.2.2.1 t ≤ q.2.1)
  else if q.1 = 1 then B q.2.1 t && B q.2.2.1 t
  else if q.1 = 2 then B q.2.1 t || B q.2.2.1 t
  else if q.1 = 3 then B q.2.1 t ^^ B q.2.2.1 t
  else if q.1 = 4 then (if B q.2.2.2 t = true then B q.2.1 t else B q.2.2.1 t)
  else if q.1 = 5 then !B q.2.1 t
  else if t < q.2.2.1 then false else B q.2.1 (t - q.2.2.1)
def bTab (f : Nat → Ln) : Nat → Nat → Nat → Bool
  | 0 => fun _ _ => false
  | j + 1 => fun i t => if i = j then bStep (f j) (bTab f j) t else bTab f j i t
def bt (f : Nat → Ln) (j t : Nat) : Bool := bTab f (j + 1) j t
theorem bTab_eq (f : Nat → Ln) (t : Nat) : ∀ (j i : Nat), i < j → bTab f j i t = bt f i t
  | 0, i, h => absurd h (Nat.not_lt_zero i)
  | j + 1, i, h => by
    by_cases e : i = j
    · subst e
      rfl
    · show (if i = j then bStep (f j) (bTab f j) t else bTab f j i t) = _
      rw [if_neg e]
      exact bTab_eq f t j i (by omega)
theorem bStep_cong {q : Ln} {B B' : Nat → Nat → Bool} {j t : Nat} (hq : LnOk j q) (h : ∀ i, i < j → ∀ t, B i t = B' i t) : bStep q B t = bStep q B' t := by
  obtain ⟨h1, h2, h3, h4, h5, -⟩ := hq
  unfold bStep
  by_cases k0 : q.1 = 0
  · rw [if_pos k0, if_pos k0]
  · have ha := h q.2.1 (h3 (by omega))
    rw [if_neg k0, if_neg k0]
    by_cases k4 : q.1 ≤ 4
    · have hb := h q.2.2.1 (h4 (by omega) k4)
      by_cases k5 : q.1 = 4
      · have hc := h q.2.2.2 (h5 k5)
        simp only [ha, hb, hc]
      · simp only [ha, hb, if_neg k5]
    · simp only [ha, if_neg (show ¬ q.1 = 1 by omega), if_neg (show ¬ q.1 = 2 by omega), if_neg (show ¬ q.1 = 3 by omega), if_neg (show ¬ q.1 = 4 by omega)]
theorem bt_eq {f : Nat → Ln} {j : Nat} (hq : LnOk j (f j)) (t : Nat) : bt f j t = bStep (f j) (bt f) t := by
  show (if j = j then bStep (f j) (bTab f j) t else bTab f j j t) = _
  rw [if_pos rfl]
  exact bStep_cong hq (fun i hi t => bTab_eq f t j i hi)
/-- the bits depend on the lines up to it -/
theorem bTab_cong {f f' : Nat → Ln} : ∀ (j i : Nat), (∀ k, k < j → f k = f' k) → i < j → ∀ t, bTab f j i t = bTab f' j i t
  | 0, i, _, h, _ => absurd h (Nat.not_lt_zero i)
  | j + 1, i, he, h, t => by
    show (if i = j then bStep (f j) (bTab f j) t else bTab f j i t) = (if i = j then bStep (f' j) (bTab f' j) t else bTab f' j i t)
    have h0 : bTab f j = bTab f' j := by
      funext a b
      by_cases ha : a < j
      · exact bTab_cong j a (fun k hk => he k (by omega)) ha b
      · have z : ∀ (g : Nat → Ln) (j : Nat), ¬ a < j → bTab g j a b = false := by
          intro g j
          induction j with
          | zero => intro _; rfl
          | succ j ih => intro hh; show (if a = j then _ else bTab g j a b) = false; rw [if_neg (by omega)]; exact ih (by omega)
        rw [z f j ha, z f' j ha]
    rw [he j (by omega), h0]
theorem bt_cong {f f' : Nat → Ln} {j : Nat} (h : ∀ k, k ≤ j → f k = f' k) (t : Nat) : bt f j t = bt f' j t := bTab_cong (j + 1) j (fun k hk => h k (by omega)) (by omega) t
/-- bit t of a long -/
def lb (x : Int64) (t : Nat) : Bool := x.toBitVec.getLsbD t
/-- a row of words holds the bits of a line over so many words -/
def RowG (g : GF) (f : Nat → Ln) (j w : Nat) : Prop := ∀ v, v < w → ∀ t, t < 64 → lb (g j v) t = bt f j (64 * v + t)
theorem lb_and (x y : Int64) (t : Nat) : lb (x &&& y) t = (lb x t && lb y t) := by simp [lb]
theorem lb_or (x y : Int64) (t : Nat) : lb (x ||| y) t = (lb x t || lb y t) := by simp [lb]
theorem lb_xor (x y : Int64) (t : Nat) : lb (x ^^^ y) t = (lb x t ^^ lb y t) := by simp [lb]
theorem lb_m1 {t : Nat} (h : t < 64) : lb (lN 18446744073709551615) t = true := by
  have : ∀ t, t < 64 → lb (lN 18446744073709551615) t = true := by decide
  exact this t h
theorem lb_0 (t : Nat) : lb (lN 0) t = false := by
  show (BitVec.ofNat 64 0).getLsbD t = false
  simp
theorem sh_c : ∀ k, k < 64 → ((Int32.toInt64 (nI k) &&& 63).toBitVec.smod 64).toNat = k := by decide
theorem sh_u : ∀ k, k < 64 → (((Int32.toInt64 (nI k)).toUInt64 &&& Int64.toUInt64 63).toBitVec % 64).toNat = k := by decide
theorem lb_shl (x : Int64) {k t : Nat} (hk : k < 64) (ht : t < 64) : lb (x <<< (Int32.toInt64 (nI k) &&& 63)) t = (decide (k ≤ t) && lb x (t - k)) := by
  show (x.toBitVec <<< ((Int32.toInt64 (nI k) &&& 63).toBitVec.smod 64)).getLsbD t = _
  rw [BitVec.shiftLeft_eq', sh_c k hk, BitVec.getLsbD_shiftLeft]
  by_cases h : k ≤ t
  · simp [ht, h, Nat.not_lt.mpr h, lb]
  · simp [ht, h, Nat.lt_of_not_le h]
theorem lb_ushr (x : Int64) {k t : Nat} (hk : k < 64) : lb ((Int64.toUInt64 x >>> ((Int32.toInt64 (nI k)).toUInt64 &&& Int64.toUInt64 63)).toInt64) t = lb x (k + t) := by
  show ((x.toUInt64 >>> ((Int32.toInt64 (nI k)).toUInt64 &&& Int64.toUInt64 63)).toBitVec).getLsbD t = _
  rw [UInt64.toBitVec_shiftRight, BitVec.ushiftRight_eq', sh_u k hk, BitVec.getLsbD_ushiftRight]
  rfl
theorem lb_one {t : Nat} (h : t < 64) : lb (lN 1) t = decide (t = 0) := by
  have : ∀ t, t < 64 → lb (lN 1) t = decide (t = 0) := by decide
  exact this t h
def wdE (g : GF) (i : Nat) (x : Int32) : Int64 := if i < 16 then (if x < 0 ∨ nI 16 ≤ x then lN 0 else g i x.toNatClampNeg) else lN 0
theorem wdE_in {g : GF} {i v : Nat} (hi : i < 16) (hv : v < 16) : wdE g i (nI v) = g i v := by
  unfold wdE
  rw [if_pos hi, if_neg, nI_clamp (by omega)]
  rintro (q | q)
  · exact nI_pos (by omega) q
  · exact nI_ge hv (by decide) q
theorem wdE_m1 {g : GF} {i : Nat} (hi : i < 16) : wdE g i (-1) = lN 0 := by
  unfold wdE
  rw [if_pos hi, if_pos (Or.inl (by decide))]
theorem lb_big (x : Int64) {t : Nat} (h : 64 ≤ t) : lb x t = false := BitVec.getLsbD_of_ge _ _ h
theorem bt_0 {f : Nat → Ln} {j t : Nat} (hq : LnOk j (f j)) (h : (f j).1 = 0) : bt f j t = decide (reg (f j).2.2.1 t ≤ (f j).2.1) := by rw [bt_eq hq]; simp [bStep, h]
theorem bt_1 {f : Nat → Ln} {j t : Nat} (hq : LnOk j (f j)) (h : (f j).1 = 1) : bt f j t = (bt f (f j).2.1 t && bt f (f j).2.2.1 t) := by rw [bt_eq hq]; simp [bStep, h]
theorem bt_2 {f : Nat → Ln} {j t : Nat} (hq : LnOk j (f j)) (h : (f j).1 = 2) : bt f j t = (bt f (f j).2.1 t || bt f (f j).2.2.1 t) := by rw [bt_eq hq]; simp [bStep, h]
theorem bt_3 {f : Nat → Ln} {j t : Nat} (hq : LnOk j (f j)) (h : (f j).1 = 3) : bt f j t = (bt f (f j).2.1 t ^^ bt f (f j).2.2.1 t) := by rw [bt_eq hq]; simp [bStep, h]
theorem bt_4 {f : Nat → Ln} {j t : Nat} (hq : LnOk j (f j)) (h : (f j).1 = 4) : bt f j t = (if bt f (f j).2.2.2 t = true then bt f (f j).2.1 t else bt f (f j).2.2.1 t) := by rw [bt_eq hq]; simp [bStep, h]
theorem bt_5 {f : Nat → Ln} {j t : Nat} (hq : LnOk j (f j)) (h : (f j).1 = 5) : bt f j t = !bt f (f j).2.1 t := by rw [bt_eq hq]; simp [bStep, h]
theorem bt_6 {f : Nat → Ln} {j t : Nat} (hq : LnOk j (f j)) (h : (f j).1 = 6) : bt f j t = (if t < (f j).2.2.1 then false else bt f (f j).2.1 (t - (f j).2.2.1)) := by rw [bt_eq hq]; simp [bStep, h]
theorem mw_6 {f : Nat → Ln} {j v d t : Nat} {x y : Int64} (hq : LnOk j (f j)) (h : (f j).1 = 6) (hd : (f j).2.2.1 = d) (h1 : 1 ≤ d) (h60 : d ≤ 60) (ht : t < 64) (hx : ∀ t, t < 64 → lb x t = bt f (f j).2.1 (64 * v + t)) (hy : v = 0 → y = lN 0) (hy2 : ∀ w, v = w + 1 → ∀ t, t < 64 → lb y t = bt f (f j).2.1 (64 * w + t)) : lb (x <<< (Int32.toInt64 (nI d) &&& 63) ||| (Int64.toUInt64 y >>> ((Int32.toInt64 (nI (64 - d))).toUInt64 &&& Int64.toUInt64 63)).toInt64) t = bt f j (64 * v + t) := by
  rw [lb_or, lb_shl x (by omega) ht, lb_ushr y (by omega), bt_6 hq h, hd]
  by_cases e : d ≤ t
  · rw [if_neg (by omega), lb_big y (by omega), hx _ (by omega), decide_eq_true e, Bool.true_and, Bool.or_false]
    congr 1
    omega
  · rw [decide_eq_false e, Bool.false_and, Bool.false_or]
    cases v with
    | zero => rw [hy rfl, lb_0, if_pos (by omega)]
    | succ w =>
      rw [hy2 w rfl _ (by omega), if_neg (by omega)]
      congr 1
      omega
/-- the rows of a source -/
def SrcG (g : GF) (j sh sd w : Nat) : Prop := ∀ v, v < w → ∀ t, t < 64 → lb (g j v) t = decide (reg sd (64 * v + t) ≤ sh)
def SrcX (x : Int64) (v sh sd k : Nat) : Prop := (∀ t, t < k → lb x t = decide (reg sd (64 * v + t) ≤ sh)) ∧ ∀ t, k ≤ t → t < 64 → lb x t = false
theorem SrcX.set {x : Int64} {v sh sd k : Nat} (h : SrcX x v sh sd k) (hk : k < 64) (hr : reg sd (64 * v + k) ≤ sh) : SrcX (x ||| (lN 1 <<< (Int32.toInt64 (nI k) &&& 63))) v sh sd (k + 1) := by
  refine ⟨fun t ht => ?_, fun t h1 h2 => ?_⟩
  · rw [lb_or, lb_shl _ hk (by omega), lb_one (by omega)]
    by_cases e : t = k
    · subst e
      rw [h.2 t (Nat.le_refl _) hk, decide_eq_true hr]
      simp
    · rw [h.1 t (by omega), decide_eq_false (show ¬ k ≤ t by omega)]
      simp
  · rw [lb_or, lb_shl _ hk h2, lb_one (by omega), h.2 t (by omega) h2, decide_eq_false (show ¬ t - k = 0 by omega)]
    simp
theorem SrcX.skip {x : Int64} {v sh sd k : Nat} (h : SrcX x v sh sd k) (hk : k < 64) (hr : ¬ reg sd (64 * v + k) ≤ sh) : SrcX x v sh sd (k + 1) := by
  refine ⟨fun t ht => ?_, fun t h1 h2 => h.2 t (by omega) h2⟩
  by_cases e : t = k
  · subst e
    rw [h.2 t (Nat.le_refl _) hk, decide_eq_false hr]
  · exact h.1 t (by omega)
theorem SrcX.start (v sh sd : Nat) : SrcX (lN 0) v sh sd 0 := ⟨fun t h => absurd h (Nat.not_lt_zero t), fun t _ _ => lb_0 t⟩
def OthG (j : Nat) (g0 g : GF) : Prop := ∀ i, i ≠ j → ∀ v, g i v = g0 i v
theorem SrcG.step {g0 g g1 : GF} {j sh sd w : Nat} {x : Int64} (h : SrcG g j sh sd w) (ho : OthG j g0 g) (hx : SrcX x w sh sd 64) (e : g1 = upG g j w x) : SrcG g1 j sh sd (w + 1) ∧ OthG j g0 g1 := by
  subst e
  refine ⟨fun v hv t ht => ?_, fun i hi v => ?_⟩
  · rw [upG_at]
    by_cases ev : v = w
    · subst ev
      rw [if_pos ⟨rfl, rfl⟩]
      exact hx.1 t ht
    · rw [if_neg (fun q => ev q.2)]
      exact h v (by omega) t ht
  · rw [upG_at, if_neg (fun q => hi q.1)]
    exact ho i hi v
theorem RowG.keep {g g1 : GF} {f : Nat → Ln} {i j w : Nat} (h : RowG g f i w) (ho : OthG j g g1) (hi : i ≠ j) : RowG g1 f i w := fun v hv t ht => by rw [ho i hi v]; exact h v hv t ht
theorem RowG.less {g : GF} {f : Nat → Ln} {i w w' : Nat} (h : RowG g f i w) (hw : w' ≤ w) : RowG g f i w' := fun v hv t ht => h v (by omega) t ht
theorem RowG.step {g0 g g1 : GF} {f : Nat → Ln} {j w : Nat} {x : Int64} (h : RowG g f j w) (ho : OthG j g0 g) (hx : ∀ t, t < 64 → lb x t = bt f j (64 * w + t)) (e : g1 = upG g j w x) : RowG g1 f j (w + 1) ∧ OthG j g0 g1 := by
  subst e
  refine ⟨fun v hv t ht => ?_, fun i hi v => ?_⟩
  · rw [upG_at]
    by_cases ev : v = w
    · subst ev
      rw [if_pos ⟨rfl, rfl⟩]
      exact hx t ht
    · rw [if_neg (fun q => ev q.2)]
      exact h v (by omega) t ht
  · rw [upG_at, if_neg (fun q => hi q.1)]
    exact ho i hi v
theorem la_T {k : Nat} (h2 : k < 2 ^ 30) : (nI k - 1).toInt = (k : Int) - 1 := pk_sub_toInt (b := 1) h2 (by decide)
theorem la_lt {la : Int32} {k i : Nat} (h : la = nI k - 1) (hk : k < 2 ^ 30) (hi : i < 2 ^ 30) (hq : ¬ la < nI i) : i < k := by
  rw [il, h, la_T hk, nT (by omega)] at hq
  omega
theorem la_ge {la : Int32} {k i : Nat} (h : la = nI k - 1) (hk : k < 2 ^ 30) (hi : i < 2 ^ 30) (hq : la < nI i) : k ≤ i := by
  rw [il, h, la_T hk, nT (by omega)] at hq
  omega
end
section
set_option maxHeartbeats 400000 in
set_option maxRecDepth 100000 in
theorem kX4_nextRegister (l : Launch) (E : EV) (u : SS) (r : Nat) (hr : r < 256) : CT l yX4_nextRegister cX4_nextRegister 2 (some .int) (Rm 0 0) [.int (nI r)] E u (Q_i E (fun z _ => z = nI (nr r)) (fun (_ : Unit) => u)) := by
  refine mstart RX4 (by decide +kernel) rfl (Nat.le_of_ble_eq_true rfl) ?_
  intro p e s m args below meth co ls Q hQ F hI hl
  have hx := F.1
  have hy := F.2.1
  have hl : lv_has ls 2 [(0, .int (nI r))] := hl
  refine lv_iload_n hx hy dX4_nextRegister_0 rfl (lv_at hl 0 rfl) ?_
  refine lv_iconst (v := nI 2) hx hy dX4_nextRegister_1 (by decide) ?_
  refine lv_imul hx hy dX4_nextRegister_2 ?_
  refine tI (pk_mul (r) (2)) ?_
  refine lv_istore_n (lv' := [(1, .int (nI (r * 2))), (0, .int (nI r))]) hx hy dX4_nextRegister_3 rfl hl (by decide) rfl (fun ls hl => ?_)
  refine lv_iload_n hx hy dX4_nextRegister_4 rfl (lv_at hl 0 rfl) ?_
  refine lv_sipush (v := nI 256) hx hy dX4_nextRegister_5 (by decide) ?_
  refine lv_icmp_ge (tgt := 15) hx hy dX4_nextRegister_8 (by decide) (fun h1 => ?_) (fun h1 => ?_)
  · have h1 : 256 ≤ r * 2 := (nI_leI (a := 256) (b := r * 2) (by omega) (by omega)).mp h1
    refine lv_iload_n hx hy dX4_nextRegister_15 rfl (lv_at hl 0 rfl) ?_
    refine lv_sipush (v := nI 256) hx hy dX4_nextRegister_16 (by decide) ?_
    refine lv_isub hx hy dX4_nextRegister_19 ?_
    refine tI (pk_sub (a := r * 2) (b := 256) (by omega)) ?_
    refine lv_bipush (v := nI 29) hx hy dX4_nextRegister_20 (by decide) ?_
    refine lv_ixor hx hy dX4_nextRegister_22 ?_
    exact rI hQ F (v := ()) hI dX4_nextRegister_23 (by unfold nr; rw [if_neg (by omega), nI_xor, Nat.mul_comm r 2])
  · have h1 : r * 2 < 256 := Nat.lt_of_not_le (fun q9 => h1 ((nI_leI (a := 256) (b := r * 2) (by omega) (by omega)).mpr q9))
    refine lv_iload_n hx hy dX4_nextRegister_11 rfl (lv_at hl 0 rfl) ?_
    refine lv_goto (tgt := 23) hx hy dX4_nextRegister_12 (by decide) ?_
    exact rI hQ F (v := ()) hI dX4_nextRegister_23 (by unfold nr; rw [if_pos (by omega), Nat.mul_comm r 2])
set_option maxHeartbeats 400000 in
set_option maxRecDepth 100000 in
theorem kX4_wordAt (l : Launch) (E : EV) (u : SS) (i : Nat) (hi : i < 2 ^ 31) (x : Int32) : CT l yX4_wordAt cX4_wordAt 4 (some .long) (Rm 0 0) [.ref (eA E 9), .int (nI i), .int (x)] E u (Q_l E (fun z _ => z = wdE u.2 i x) (fun (_ : Unit) => u)) := by
  refine mstart RX4 (by decide +kernel) rfl (Nat.le_of_ble_eq_true rfl) ?_
  intro p e s m args below meth co ls Q hQ F hI hl
  have hx := F.1
  have hy := F.2.1
  have hl : lv_has ls 4 [(0, .ref (eA E 9)), (1, .int (nI i)), (2, .int (x))] := hl
  refine lv_iload_n hx hy dX4_wordAt_0 rfl (lv_at hl 1 rfl) ?_
  refine lv_if_lt (tgt := 13) hx hy dX4_wordAt_1 (by decide) (fun h1 => ?_) (fun h1 => ?_)
  · have h1 : i < 0 := (nI_ltI (a := i) (b := 0) (by omega) (by omega)).mp h1
    exact absurd h1 (by omega)
  · have h1 : 0 ≤ i := Nat.le_of_not_lt (fun q9 => h1 ((nI_ltI (a := i) (b := 0) (by omega) (by omega)).mpr q9))
    refine lv_iload_n hx hy dX4_wordAt_4 rfl (lv_at hl 1 rfl) ?_
    refine lv_aload_n hx hy dX4_wordAt_5 rfl (lv_at hl 0 rfl) ?_
    refine gX4_rows F hI L_X4_11 dX4_wordAt_6 ?_
    refine aRn F hI dX4_wordAt_9 ?_
    refine lv_icmp_lt (tgt := 15) hx hy dX4_wordAt_10 (by decide) (fun h2 => ?_) (fun h2 => ?_)
    · have h2 : i < 16 := (nI_ltI (a := i) (b := 16) (by omega) (by omega)).mp h2
      refine lv_aload_n hx hy dX4_wordAt_15 rfl (lv_at hl 0 rfl) ?_
      refine gX4_rows F hI L_X4_11 dX4_wordAt_16 ?_
      refine lv_iload_n hx hy dX4_wordAt_19 rfl (lv_at hl 1 rfl) ?_
      refine aRl F hI (i := i) (by omega) dX4_wordAt_20 ?_
      refine lv_astore_n (lv' := [(3, .ref (eA E (32 + (i)))), (0, .ref (eA E 9)), (1, .int (nI i)), (2, .int (x))]) hx hy dX4_wordAt_21 rfl hl (by decide) rfl (fun ls hl => ?_)
      refine lv_iload_n hx hy dX4_wordAt_22 rfl (lv_at hl 3 rfl) ?_
      refine lv_if_lt (tgt := 32) hx hy dX4_wordAt_23 (by decide) (fun h3 => ?_) (fun h3 => ?_)
      · refine lv_lconst (v := lN 0) hx hy dX4_wordAt_32 (by decide) ?_
        refine lv_goto (tgt := 39) hx hy dX4_wordAt_33 (by decide) ?_
        exact rL hQ F (v := ()) hI dX4_wordAt_39 (by unfold wdE; rw [if_pos (by omega), if_pos (Or.inl h3)])
      · refine lv_iload_n hx hy dX4_wordAt_26 rfl (lv_at hl 3 rfl) ?_
        refine lv_aload_n hx hy dX4_wordAt_27 rfl (lv_at hl 0 rfl) ?_
        refine aLn F hI (iRow (b := i) (by omega)) dX4_wordAt_28 ?_
        refine lv_icmp_lt (tgt := 36) hx hy dX4_wordAt_29 (by decide) (fun h4 => ?_) (fun h4 => ?_)
        · obtain ⟨jj, hj, ex⟩ : ∃ j : Nat, j < 16 ∧ x = nI j := vp_in_of (vp_lt h3 h4 (by decide)) (by decide)
          have hl : lv_has ls 4 [(3, .ref (eA E (32 + (i)))), (0, .ref (eA E 9)), (1, .int (nI i)), (2, .int (nI jj))] := by rw [ex] at hl; exact hl
          refine lv_aload_n hx hy dX4_wordAt_36 rfl (lv_at hl 0 rfl) ?_
          refine lv_iload_n hx hy dX4_wordAt_37 rfl (lv_at hl 3 rfl) ?_
          refine aLlN F hI (iRow (b := i) (by omega)) (i := jj) (by omega) dX4_wordAt_38 ?_
          exact rL hQ F (v := ()) hI dX4_wordAt_39 (by rw [ex]; exact (wdE_in (by omega) hj).symm)
        · refine lv_lconst (v := lN 0) hx hy dX4_wordAt_32 (by decide) ?_
          refine lv_goto (tgt := 39) hx hy dX4_wordAt_33 (by decide) ?_
          exact rL hQ F (v := ()) hI dX4_wordAt_39 (by unfold wdE; rw [if_pos (by omega), if_pos (Or.inr (nlt_le h4))])
    · have h2 : 16 ≤ i := Nat.le_of_not_lt (fun q9 => h2 ((nI_ltI (a := i) (b := 16) (by omega) (by omega)).mpr q9))
      refine lv_lconst (v := lN 0) hx hy dX4_wordAt_13 (by decide) ?_
      exact rL hQ F (v := ()) hI dX4_wordAt_14 (by unfold wdE; rw [if_neg (by omega)])
set_option maxHeartbeats 400000 in
set_option maxRecDepth 100000 in
theorem kX4_setWord (l : Launch) (E : EV) (u : SS) (i v : Nat) (hi : i < 16) (hv : v < 16) (x : Int64) : CT l yX4_setWord cX4_setWord 6 none (Rm 0 0) [.ref (eA E 9), .int (nI i), .int (nI v), .long (x)] E u (Q_v E (fun z => z = upG u.2 i v x) (fun (z : GF) => (u.1, z))) := by
  refine mstart RX4 (by decide +kernel) rfl (Nat.le_of_ble_eq_true rfl) ?_
  intro p e s m args below meth co ls Q hQ F hI hl
  have hx := F.1
  have hy := F.2.1
  have hl : lv_has ls 6 [(0, .ref (eA E 9)), (1, .int (nI i)), (2, .int (nI v)), (3, .long (x))] := hl
  refine lv_iload_n hx hy dX4_setWord_0 rfl (lv_at hl 1 rfl) ?_
  refine lv_if_lt (tgt := 13) hx hy dX4_setWord_1 (by decide) (fun h1 => ?_) (fun h1 => ?_)
  · have h1 : i < 0 := (nI_ltI (a := i) (b := 0) (by omega) (by omega)).mp h1
    exact absurd h1 (by omega)
  · have h1 : 0 ≤ i := Nat.le_of_not_lt (fun q9 => h1 ((nI_ltI (a := i) (b := 0) (by omega) (by omega)).mpr q9))
    refine lv_iload_n hx hy dX4_setWord_4 rfl (lv_at hl 1 rfl) ?_
    refine lv_aload_n hx hy dX4_setWord_5 rfl (lv_at hl 0 rfl) ?_
    refine gX4_rows F hI L_X4_11 dX4_setWord_6 ?_
    refine aRn F hI dX4_setWord_9 ?_
    refine lv_icmp_lt (tgt := 14) hx hy dX4_setWord_10 (by decide) (fun h2 => ?_) (fun h2 => ?_)
    · have h2 : i < 16 := (nI_ltI (a := i) (b := 16) (by omega) (by omega)).mp h2
      refine lv_aload_n hx hy dX4_setWord_14 rfl (lv_at hl 0 rfl) ?_
      refine gX4_rows F hI L_X4_11 dX4_setWord_15 ?_
      refine lv_iload_n hx hy dX4_setWord_18 rfl (lv_at hl 1 rfl) ?_
      refine aRl F hI (i := i) (by omega) dX4_setWord_19 ?_
      refine lv_astore (lv' := [(5, .ref (eA E (32 + (i)))), (0, .ref (eA E 9)), (1, .int (nI i)), (2, .int (nI v)), (3, .long (x))]) hx hy dX4_setWord_20 hl (by decide) rfl (fun ls hl => ?_)
      refine lv_iload_n hx hy dX4_setWord_22 rfl (lv_at hl 3 rfl) ?_
      refine lv_if_lt (tgt := 38) hx hy dX4_setWord_23 (by decide) (fun h3 => ?_) (fun h3 => ?_)
      · have h3 : v < 0 := (nI_ltI (a := v) (b := 0) (by omega) (by omega)).mp h3
        exact absurd h3 (by omega)
      · have h3 : 0 ≤ v := Nat.le_of_not_lt (fun q9 => h3 ((nI_ltI (a := v) (b := 0) (by omega) (by omega)).mpr q9))
        refine lv_iload_n hx hy dX4_setWord_26 rfl (lv_at hl 3 rfl) ?_
        refine lv_aload hx hy dX4_setWord_27 (lv_at hl 0 rfl) ?_
        refine aLn F hI (iRow (b := i) (by omega)) dX4_setWord_29 ?_
        refine lv_icmp_ge (tgt := 38) hx hy dX4_setWord_30 (by decide) (fun h4 => ?_) (fun h4 => ?_)
        · have h4 : 16 ≤ v := (nI_leI (a := 16) (b := v) (by omega) (by omega)).mp h4
          exact absurd h4 (by omega)
        · have h4 : v < 16 := Nat.lt_of_not_le (fun q9 => h4 ((nI_leI (a := 16) (b := v) (by omega) (by omega)).mpr q9))
          refine lv_aload hx hy dX4_setWord_33 (lv_at hl 0 rfl) ?_
          refine lv_iload_n hx hy dX4_setWord_35 rfl (lv_at hl 3 rfl) ?_
          refine lv_lload_n hx hy dX4_setWord_36 rfl (lv_at hl 4 rfl) ?_
          refine aLsN F hI (iRow (b := i) (by omega)) (i := v) (by omega) dX4_setWord_37 (fun H locs hI => ?_)
          obtain ⟨g5, eg5⟩ : ∃ z9 : GF, z9 = upG u.2 (i) (v) (x) := ⟨_, rfl⟩
          have hI : Iv E s H locs (u.1, g5) := by rw [eg5]; exact hI
          exact rV hQ F (v := g5) hI dX4_setWord_38 (by rw [eg5])
    · have h2 : 16 ≤ i := Nat.le_of_not_lt (fun q9 => h2 ((nI_ltI (a := i) (b := 16) (by omega) (by omega)).mpr q9))
      exact absurd h2 (by omega)
end
section
set_option maxHeartbeats 400000 in
set_option maxRecDepth 100000 in
theorem kX4_madeWord (l : Launch) (E : EV) (u : SS) {b n : Nat} {f : Nat → Ln} (hb : b < 7) (hR : RepL b u.1 n f) (h16 : n ≤ 16) (j v : Nat) (hj : j < n) (hok : LnOk j (f j)) (hk : 1 ≤ (f j).1) (hv : v < 16) (hW : ∀ i, i < j → RowG u.2 f i (v + 1)) : CT l yX4_madeWord cX4_madeWord 10 (some .long) (Rm 2 43) [.ref (eA E 9), .ref (eA E (10 + 3 * b)), .int (nI j), .int (nI v)] E u (Q_l E (fun z _ => ∀ t, t < 64 → lb z t = bt f j (64 * v + t)) (fun (_ : Unit) => u)) := by
  refine mstart RX4 (by decide +kernel) rfl (Nat.le_of_ble_eq_true rfl) ?_
  intro p e s m args below meth co ls Q hQ F hI hl
  have hx := F.1
  have hy := F.2.1
  have hl : lv_has ls 10 [(0, .ref (eA E 9)), (1, .ref (eA E (10 + 3 * b))), (2, .int (nI j)), (3, .int (nI v))] := hl
  have hA := hok.2.2.1 hk
  have hB9 := hok.2.2.2.2.2.2.1
  have hC9 := hok.2.2.2.2.2.2.2
  have hk6 := hok.1
  refine lv_aload_n hx hy dX4_madeWord_0 rfl (lv_at hl 1 rfl) ?_
  refine lv_iload_n hx hy dX4_madeWord_1 rfl (lv_at hl 2 rfl) ?_
  refine lv_iconst (v := nI 1) hx hy dX4_madeWord_2 (by decide) ?_
  refine zI hI (xV F hI hl (kX0_numberOf l E (u) (b := b) hb (nI j) (nI 1)) M_X4_26 (rX0 F hI (b := b) hb) rfl ⟨Nat.le_of_ble_eq_true rfl, Nat.le_of_ble_eq_true rfl⟩ ⟨Nat.zero_le _, Nat.zero_le _⟩ rfl (Nat.le_of_ble_eq_true rfl) dX4_madeWord_3) (fun r2 v3 H locs hI hp1 => ?_)
  rw [show nI j * nI 3 + nI 1 - nI 1 = nI (3 * j) from ix3 j 0, el_lt (by omega) (by decide)] at hp1
  subst hp1
  refine tI (hR.2 j hj).2.1 ?_
  refine lv_istore (lv' := [(4, .int (nI ((f j).2.1))), (0, .ref (eA E 9)), (1, .ref (eA E (10 + 3 * b))), (2, .int (nI j)), (3, .int (nI v))]) hx hy dX4_madeWord_6 hl (by decide) rfl (fun ls hl => ?_)
  refine lv_aload_n hx hy dX4_madeWord_8 rfl (lv_at hl 2 rfl) ?_
  refine lv_iload_n hx hy dX4_madeWord_9 rfl (lv_at hl 3 rfl) ?_
  refine lv_iconst (v := nI 2) hx hy dX4_madeWord_10 (by decide) ?_
  refine zI hI (xV F hI hl (kX0_numberOf l E (u) (b := b) hb (nI j) (nI 2)) M_X4_26 (rX0 F hI (b := b) hb) rfl ⟨Nat.le_of_ble_eq_true rfl, Nat.le_of_ble_eq_true rfl⟩ ⟨Nat.zero_le _, Nat.zero_le _⟩ rfl (Nat.le_of_ble_eq_true rfl) dX4_madeWord_11) (fun r5 v6 H locs hI hp4 => ?_)
  rw [show nI j * nI 3 + nI 2 - nI 1 = nI (3 * j + 1) from ix3 j 1, el_lt (by omega) (by decide)] at hp4
  subst hp4
  refine tI (hR.2 j hj).2.2.1 ?_
  refine lv_istore (lv' := [(5, .int (nI ((f j).2.2.1))), (4, .int (nI ((f j).2.1))), (0, .ref (eA E 9)), (1, .ref (eA E (10 + 3 * b))), (2, .int (nI j)), (3, .int (nI v))]) hx hy dX4_madeWord_14 hl (by decide) rfl (fun ls hl => ?_)
  refine lv_aload_n hx hy dX4_madeWord_16 rfl (lv_at hl 2 rfl) ?_
  refine lv_iload hx hy dX4_madeWord_17 (lv_at hl 1 rfl) ?_
  refine lv_iload_n hx hy dX4_madeWord_19 rfl (lv_at hl 5 rfl) ?_
  refine zL hI (xV F hI hl (kX4_wordAt l E (u) ((f j).2.1) (by omega) (nI v)) M_X4_45 (rX4 F hI) rfl ⟨Nat.le_of_ble_eq_true rfl, Nat.le_of_ble_eq_true rfl⟩ ⟨Nat.zero_le _, Nat.zero_le _⟩ rfl (Nat.le_of_ble_eq_true rfl) dX4_madeWord_20) (fun r8 v9 H locs hI hp7 => ?_)
  rw [wdE_in (by omega) (by omega)] at hp7
  subst hp7
  refine lv_lstore (lv' := [(6, .long (u.2 ((f j).2.1) v)), (5, .int (nI ((f j).2.2.1))), (4, .int (nI ((f j).2.1))), (0, .ref (eA E 9)), (1, .ref (eA E (10 + 3 * b))), (2, .int (nI j)), (3, .int (nI v))]) hx hy dX4_madeWord_23 hl (by decide) rfl (fun ls hl => ?_)
  refine lv_aload_n hx hy dX4_madeWord_25 rfl (lv_at hl 4 rfl) ?_
  refine lv_iload_n hx hy dX4_madeWord_26 rfl (lv_at hl 5 rfl) ?_
  refine zI hI (xV F hI hl (kX0_kindOf l E (u) (b := b) hb (nI j)) M_X4_20 (rX0 F hI (b := b) hb) rfl ⟨Nat.le_of_ble_eq_true rfl, Nat.le_of_ble_eq_true rfl⟩ ⟨Nat.zero_le _, Nat.zero_le _⟩ rfl (Nat.le_of_ble_eq_true rfl) dX4_madeWord_27) (fun r11 v12 H locs hI hp10 => ?_)
  rw [el_lt (by omega) (by decide)] at hp10
  subst hp10
  refine tI (hR.2 j hj).1 ?_
  rcases (show (f j).1 = 1 ∨ (f j).1 = 2 ∨ (f j).1 = 3 ∨ (f j).1 = 4 ∨ (f j).1 = 5 ∨ (f j).1 = 6 by omega) with hk13 | hk13 | hk13 | hk13 | hk13 | hk13
  · refine tI (show nI ((f j).1) = nI 1 from by rw [hk13]) ?_
    refine lv_tableIn (tgt := 64) hx hy dX4_madeWord_30 (by decide) (by decide) (by rfl) (by decide) ?_
    have hB := hok.2.2.2.1 (by omega) (by omega)
    refine lv_lload hx hy dX4_madeWord_64 (lv_at hl 0 rfl) ?_
    refine lv_aload_n hx hy dX4_madeWord_66 rfl (lv_at hl 3 rfl) ?_
    refine lv_iload hx hy dX4_madeWord_67 (lv_at hl 1 rfl) ?_
    refine lv_iload_n hx hy dX4_madeWord_69 rfl (lv_at hl 6 rfl) ?_
    refine zL hI (xV F hI hl (kX4_wordAt l E (u) ((f j).2.2.1) (by omega) (nI v)) M_X4_45 (rX4 F hI) rfl ⟨Nat.le_of_ble_eq_true rfl, Nat.le_of_ble_eq_true rfl⟩ ⟨Nat.zero_le _, Nat.zero_le _⟩ rfl (Nat.le_of_ble_eq_true rfl) dX4_madeWord_70) (fun r15 v16 H locs hI hp14 => ?_)
    rw [wdE_in (by omega) (by omega)] at hp14
    subst hp14
    refine lv_land hx hy dX4_madeWord_73 ?_
    exact rL hQ F (v := ()) hI dX4_madeWord_74 (fun t ht => by rw [lb_and, hW _ hA v (by omega) t ht, hW _ hB v (by omega) t ht, bt_1 hok hk13])
  · refine tI (show nI ((f j).1) = nI 2 from by rw [hk13]) ?_
    refine lv_tableIn (tgt := 75) hx hy dX4_madeWord_30 (by decide) (by decide) (by rfl) (by decide) ?_
    have hB := hok.2.2.2.1 (by omega) (by omega)
    refine lv_lload hx hy dX4_madeWord_75 (lv_at hl 0 rfl) ?_
    refine lv_aload_n hx hy dX4_madeWord_77 rfl (lv_at hl 3 rfl) ?_
    refine lv_iload hx hy dX4_madeWord_78 (lv_at hl 1 rfl) ?_
    refine lv_iload_n hx hy dX4_madeWord_80 rfl (lv_at hl 6 rfl) ?_
    refine zL hI (xV F hI hl (kX4_wordAt l E (u) ((f j).2.2.1) (by omega) (nI v)) M_X4_45 (rX4 F hI) rfl ⟨Nat.le_of_ble_eq_true rfl, Nat.le_of_ble_eq_true rfl⟩ ⟨Nat.zero_le _, Nat.zero_le _⟩ rfl (Nat.le_of_ble_eq_true rfl) dX4_madeWord_81) (fun r18 v19 H locs hI hp17 => ?_)
    rw [wdE_in (by omega) (by omega)] at hp17
    subst hp17
    refine lv_lor hx hy dX4_madeWord_84 ?_
    exact rL hQ F (v := ()) hI dX4_madeWord_85 (fun t ht => by rw [lb_or, hW _ hA v (by omega) t ht, hW _ hB v (by omega) t ht, bt_2 hok hk13])
  · refine tI (show nI ((f j).1) = nI 3 from by rw [hk13]) ?_
    refine lv_tableIn (tgt := 86) hx hy dX4_madeWord_30 (by decide) (by decide) (by rfl) (by decide) ?_
    have hB := hok.2.2.2.1 (by omega) (by omega)
    refine lv_lload hx hy dX4_madeWord_86 (lv_at hl 0 rfl) ?_
    refine lv_aload_n hx hy dX4_madeWord_88 rfl (lv_at hl 3 rfl) ?_
    refine lv_iload hx hy dX4_madeWord_89 (lv_at hl 1 rfl) ?_
    refine lv_iload_n hx hy dX4_madeWord_91 rfl (lv_at hl 6 rfl) ?_
    refine zL hI (xV F hI hl (kX4_wordAt l E (u) ((f j).2.2.1) (by omega) (nI v)) M_X4_45 (rX4 F hI) rfl ⟨Nat.le_of_ble_eq_true rfl, Nat.le_of_ble_eq_true rfl⟩ ⟨Nat.zero_le _, Nat.zero_le _⟩ rfl (Nat.le_of_ble_eq_true rfl) dX4_madeWord_92) (fun r21 v22 H locs hI hp20 => ?_)
    rw [wdE_in (by omega) (by omega)] at hp20
    subst hp20
    refine lv_lxor hx hy dX4_madeWord_95 ?_
    exact rL hQ F (v := ()) hI dX4_madeWord_96 (fun t ht => by rw [lb_xor, hW _ hA v (by omega) t ht, hW _ hB v (by omega) t ht, bt_3 hok hk13])
  · refine tI (show nI ((f j).1) = nI 4 from by rw [hk13]) ?_
    refine lv_tableIn (tgt := 97) hx hy dX4_madeWord_30 (by decide) (by decide) (by rfl) (by decide) ?_
    have hB := hok.2.2.2.1 (by omega) (by omega)
    have hC := hok.2.2.2.2.1 hk13
    refine lv_aload_n hx hy dX4_madeWord_97 rfl (lv_at hl 3 rfl) ?_
    refine lv_aload_n hx hy dX4_madeWord_98 rfl (lv_at hl 4 rfl) ?_
    refine lv_iload_n hx hy dX4_madeWord_99 rfl (lv_at hl 5 rfl) ?_
    refine lv_iconst (v := nI 3) hx hy dX4_madeWord_100 (by decide) ?_
    refine zI hI (xV F hI hl (kX0_numberOf l E (u) (b := b) hb (nI j) (nI 3)) M_X4_26 (rX0 F hI (b := b) hb) rfl ⟨Nat.le_of_ble_eq_true rfl, Nat.le_of_ble_eq_true rfl⟩ ⟨Nat.zero_le _, Nat.zero_le _⟩ rfl (Nat.le_of_ble_eq_true rfl) dX4_madeWord_101) (fun r24 v25 H locs hI hp23 => ?_)
    rw [show nI j * nI 3 + nI 3 - nI 1 = nI (3 * j + 2) from ix3 j 2, el_lt (by omega) (by decide)] at hp23
    subst hp23
    refine tI (hR.2 j hj).2.2.2 ?_
    refine lv_iload_n hx hy dX4_madeWord_104 rfl (lv_at hl 6 rfl) ?_
    refine zL hI (xV F hI hl (kX4_wordAt l E (u) ((f j).2.2.2) (by omega) (nI v)) M_X4_45 (rX4 F hI) rfl ⟨Nat.le_of_ble_eq_true rfl, Nat.le_of_ble_eq_true rfl⟩ ⟨Nat.zero_le _, Nat.zero_le _⟩ rfl (Nat.le_of_ble_eq_true rfl) dX4_madeWord_105) (fun r27 v28 H locs hI hp26 => ?_)
    rw [wdE_in (by omega) (by omega)] at hp26
    subst hp26
    refine lv_lstore (lv' := [(8, .long (u.2 ((f j).2.2.2) v)), (6, .long (u.2 ((f j).2.1) v)), (5, .int (nI ((f j).2.2.1))), (4, .int (nI ((f j).2.1))), (0, .ref (eA E 9)), (1, .ref (eA E (10 + 3 * b))), (2, .int (nI j)), (3, .int (nI v))]) hx hy dX4_madeWord_108 hl (by decide) rfl (fun ls hl => ?_)
    refine lv_lload hx hy dX4_madeWord_110 (lv_at hl 1 rfl) ?_
    refine lv_lload hx hy dX4_madeWord_112 (lv_at hl 0 rfl) ?_
    refine lv_land hx hy dX4_madeWord_114 ?_
    refine lv_aload_n hx hy dX4_madeWord_115 rfl (lv_at hl 4 rfl) ?_
    refine lv_iload hx hy dX4_madeWord_116 (lv_at hl 2 rfl) ?_
    refine lv_iload_n hx hy dX4_madeWord_118 rfl (lv_at hl 7 rfl) ?_
    refine zL hI (xV F hI hl (kX4_wordAt l E (u) ((f j).2.2.1) (by omega) (nI v)) M_X4_45 (rX4 F hI) rfl ⟨Nat.le_of_ble_eq_true rfl, Nat.le_of_ble_eq_true rfl⟩ ⟨Nat.zero_le _, Nat.zero_le _⟩ rfl (Nat.le_of_ble_eq_true rfl) dX4_madeWord_119) (fun r30 v31 H locs hI hp29 => ?_)
    rw [wdE_in (by omega) (by omega)] at hp29
    subst hp29
    refine lv_lload hx hy dX4_madeWord_122 (lv_at hl 0 rfl) ?_
    refine zcl F K_X4_49 dX4_madeWord_124 ?_
    refine tL (show _ = lN 18446744073709551615 from rfl) ?_
    refine lv_lxor hx hy dX4_madeWord_127 ?_
    refine lv_land hx hy dX4_madeWord_128 ?_
    refine lv_lor hx hy dX4_madeWord_129 ?_
    exact rL hQ F (v := ()) hI dX4_madeWord_130 (fun t ht => by rw [lb_or, lb_and, lb_and, lb_xor, lb_m1 ht, hW _ hA v (by omega) t ht, hW _ hB v (by omega) t ht, hW _ hC v (by omega) t ht, bt_4 hok hk13]; cases bt f (f j).2.2.2 (64 * v + t) <;> simp)
  · refine tI (show nI ((f j).1) = nI 5 from by rw [hk13]) ?_
    refine lv_tableIn (tgt := 131) hx hy dX4_madeWord_30 (by decide) (by decide) (by rfl) (by decide) ?_
    refine lv_lload hx hy dX4_madeWord_131 (lv_at hl 0 rfl) ?_
    refine zcl F K_X4_49 dX4_madeWord_133 ?_
    refine tL (show _ = lN 18446744073709551615 from rfl) ?_
    refine lv_lxor hx hy dX4_madeWord_136 ?_
    exact rL hQ F (v := ()) hI dX4_madeWord_137 (fun t ht => by rw [lb_xor, lb_m1 ht, hW _ hA v (by omega) t ht, bt_5 hok hk13, Bool.xor_true])
  · refine tI (show nI ((f j).1) = nI 6 from by rw [hk13]) ?_
    refine lv_tableOut (tgt := 138) hx hy dX4_madeWord_30 (by decide) (by decide) ?_
    have hD := hok.2.2.2.2.2.1 hk13
    refine lv_lload hx hy dX4_madeWord_138 (lv_at hl 0 rfl) ?_
    refine lv_iload hx hy dX4_madeWord_140 (lv_at hl 1 rfl) ?_
    refine lv_lshl (v := (u.2 ((f j).2.1) v) <<< (Int32.toInt64 (nI ((f j).2.2.1)) &&& 63)) hx hy dX4_madeWord_142 rfl ?_
    refine lv_aload_n hx hy dX4_madeWord_143 rfl (lv_at hl 3 rfl) ?_
    refine lv_iload hx hy dX4_madeWord_144 (lv_at hl 2 rfl) ?_
    refine lv_iload_n hx hy dX4_madeWord_146 rfl (lv_at hl 6 rfl) ?_
    refine lv_iconst (v := nI 1) hx hy dX4_madeWord_147 (by decide) ?_
    by_cases hv32 : v = 0
    · refine lv_isub hx hy dX4_madeWord_148 ?_
      refine tI (show nI v - nI 1 = -1 from by rw [hv32]; decide) ?_
      refine zL hI (xV F hI hl (kX4_wordAt l E (u) ((f j).2.1) (by omega) (-1)) M_X4_45 (rX4 F hI) rfl ⟨Nat.le_of_ble_eq_true rfl, Nat.le_of_ble_eq_true rfl⟩ ⟨Nat.zero_le _, Nat.zero_le _⟩ rfl (Nat.le_of_ble_eq_true rfl) dX4_madeWord_149) (fun r34 v35 H locs hI hp33 => ?_)
      subst hp33
      refine lv_bipush (v := nI 64) hx hy dX4_madeWord_152 (by decide) ?_
      refine lv_iload hx hy dX4_madeWord_154 (lv_at hl 1 rfl) ?_
      refine lv_isub hx hy dX4_madeWord_156 ?_
      refine tI (pk_sub (a := 64) (b := (f j).2.2.1) (by omega)) ?_
      refine lv_lushr (v := (Int64.toUInt64 (wdE (u.2) ((f j).2.1) (-1)) >>> ((Int32.toInt64 (nI (64 - ((f j).2.2.1)))).toUInt64 &&& Int64.toUInt64 63)).toInt64) hx hy dX4_madeWord_157 rfl ?_
      refine lv_lor hx hy dX4_madeWord_158 ?_
      exact rL hQ F (v := ()) hI dX4_madeWord_159 (fun t ht => mw_6 hok hk13 rfl hD.1 hD.2 ht (fun t ht => hW _ hA v (by omega) t ht) (fun _ => wdE_m1 (by omega)) (fun w hw => absurd hw (by omega)))
    · refine lv_isub hx hy dX4_madeWord_148 ?_
      refine tI (pk_sub (a := v) (b := 1) (by omega)) ?_
      refine zL hI (xV F hI hl (kX4_wordAt l E (u) ((f j).2.1) (by omega) (nI (v - 1))) M_X4_45 (rX4 F hI) rfl ⟨Nat.le_of_ble_eq_true rfl, Nat.le_of_ble_eq_true rfl⟩ ⟨Nat.zero_le _, Nat.zero_le _⟩ rfl (Nat.le_of_ble_eq_true rfl) dX4_madeWord_149) (fun r37 v38 H locs hI hp36 => ?_)
      rw [wdE_in (by omega) (by omega)] at hp36
      subst hp36
      refine lv_bipush (v := nI 64) hx hy dX4_madeWord_152 (by decide) ?_
      refine lv_iload hx hy dX4_madeWord_154 (lv_at hl 1 rfl) ?_
      refine lv_isub hx hy dX4_madeWord_156 ?_
      refine tI (pk_sub (a := 64) (b := (f j).2.2.1) (by omega)) ?_
      refine lv_lushr (v := (Int64.toUInt64 (u.2 ((f j).2.1) (v - 1)) >>> ((Int32.toInt64 (nI (64 - ((f j).2.2.1)))).toUInt64 &&& Int64.toUInt64 63)).toInt64) hx hy dX4_madeWord_157 rfl ?_
      refine lv_lor hx hy dX4_madeWord_158 ?_
      exact rL hQ F (v := ()) hI dX4_madeWord_159 (fun t ht => mw_6 hok hk13 rfl hD.1 hD.2 ht (fun t ht => hW _ hA v (by omega) t ht) (fun e9 => absurd e9 hv32) (fun w hw t ht => by have e9 : v - 1 = w := (by omega); rw [e9]; exact hW _ hA w (by omega) t ht))
set_option maxHeartbeats 400000 in
set_option maxRecDepth 100000 in
theorem kX4_fillSource (l : Launch) (E : EV) (u : SS) (j sh sd w : Nat) (hj : j < 16) (hsh : sh ≤ 256) (hsd : sd < 256) (hw : w ≤ 16) : CT l yX4_fillSource cX4_fillSource 10 none (Rm 1 25) [.ref (eA E 9), .int (nI j), .int (nI sh), .int (nI sd), .int (nI w)] E u (Q_v E (fun g => SrcG g j sh sd w ∧ OthG j u.2 g) (fun (g : GF) => (u.1, g))) := by
  refine mstart RX4 (by decide +kernel) rfl (Nat.le_of_ble_eq_true rfl) ?_
  intro p e s m args below meth co ls Q hQ F hI hl
  have hx := F.1
  have hy := F.2.1
  have hl : lv_has ls 10 [(0, .ref (eA E 9)), (1, .int (nI j)), (2, .int (nI sh)), (3, .int (nI sd)), (4, .int (nI w))] := hl
  refine lv_iload_n hx hy dX4_fillSource_0 rfl (lv_at hl 3 rfl) ?_
  refine lv_istore (lv' := [(5, .int (nI sd)), (0, .ref (eA E 9)), (1, .int (nI j)), (2, .int (nI sh)), (3, .int (nI sd)), (4, .int (nI w))]) hx hy dX4_fillSource_1 hl (by decide) rfl (fun ls hl => ?_)
  refine lv_iconst (v := nI 0) hx hy dX4_fillSource_3 (by decide) ?_
  refine lv_istore (lv' := [(6, .int (nI 0)), (5, .int (nI sd)), (0, .ref (eA E 9)), (1, .int (nI j)), (2, .int (nI sh)), (3, .int (nI sd)), (4, .int (nI w))]) hx hy dX4_fillSource_4 hl (by decide) rfl (fun ls hl => ?_)
  have lp1 : ∀ (fu : Nat) (v : Nat) (g : GF), (v ≤ w) → (w - v < fu) → (SrcG g j sh sd v) → (OthG j u.2 g) →  ∀ (H : Heap) (locs : List Loc) (ls : Array Slot), Iv E s H locs ((u.1, g)) → lv_has ls 10 [(6, .int (nI v)), (5, .int (nI (reg sd (64 * v)))), (0, .ref (eA E 9)), (1, .int (nI j)), (2, .int (nI sh)), (3, .int (nI sd)), (4, .int (nI w))] → W p l e (Rm 1 25) s m args below meth co H locs 0 0 Q (F0 m 6 ls []) := by
    intro fu
    induction fu with
    | zero => intro v g hi hf hG hO; exact absurd hf (Nat.not_lt_zero _)
    | succ fu ih =>
      intro v g hi hf hG hO H locs ls hI hl
      have ih_6 := ih
      refine lv_iload hx hy dX4_fillSource_6 (lv_at hl 0 rfl) ?_
      refine lv_iload hx hy dX4_fillSource_8 (lv_at hl 6 rfl) ?_
      refine lv_icmp_ge (tgt := 69) hx hy dX4_fillSource_10 (by decide) (fun h2 => ?_) (fun h2 => ?_)
      · have h2 : w ≤ v := (nI_leI (a := w) (b := v) (by omega) (by omega)).mp h2
        exact rV hQ F (v := g) hI dX4_fillSource_69 (by have e9 : v = w := (by omega); rw [← e9]; exact ⟨hG, hO⟩)
      · have h2 : v < w := Nat.lt_of_not_le (fun q9 => h2 ((nI_leI (a := w) (b := v) (by omega) (by omega)).mpr q9))
        refine lv_lconst (v := lN 0) hx hy dX4_fillSource_13 (by decide) ?_
        refine lv_lstore (lv' := [(7, .long (lN 0)), (6, .int (nI v)), (5, .int (nI (reg sd (64 * v)))), (0, .ref (eA E 9)), (1, .int (nI j)), (2, .int (nI sh)), (3, .int (nI sd)), (4, .int (nI w))]) hx hy dX4_fillSource_14 hl (by decide) rfl (fun ls hl => ?_)
        refine lv_iconst (v := nI 0) hx hy dX4_fillSource_16 (by decide) ?_
        refine lv_istore (lv' := [(9, .int (nI 0)), (7, .long (lN 0)), (6, .int (nI v)), (5, .int (nI (reg sd (64 * v)))), (0, .ref (eA E 9)), (1, .int (nI j)), (2, .int (nI sh)), (3, .int (nI sd)), (4, .int (nI w))]) hx hy dX4_fillSource_17 hl (by decide) rfl (fun ls hl => ?_)
        have lp3 : ∀ (fu : Nat) (k : Nat) (x : Int64), (k ≤ 64) → (64 - k < fu) → (SrcX x v sh sd k) →  ∀ (H : Heap) (locs : List Loc) (ls : Array Slot), Iv E s H locs ((u.1, g)) → lv_has ls 10 [(9, .int (nI k)), (7, .long (x)), (6, .int (nI v)), (5, .int (nI (reg sd (64 * v + k)))), (0, .ref (eA E 9)), (1, .int (nI j)), (2, .int (nI sh)), (3, .int (nI sd)), (4, .int (nI w))] → W p l e (Rm 1 25) s m args below meth co H locs 0 0 Q (F0 m 19 ls []) := by
          intro fu
          induction fu with
          | zero => intro k x hi2 hf2 hX; exact absurd hf2 (Nat.not_lt_zero _)
          | succ fu ih =>
            intro k x hi2 hf2 hX H locs ls hI hl
            have ih_19 := ih
            refine lv_iload hx hy dX4_fillSource_19 (lv_at hl 0 rfl) ?_
            refine lv_bipush (v := nI 64) hx hy dX4_fillSource_21 (by decide) ?_
            refine lv_icmp_ge (tgt := 54) hx hy dX4_fillSource_23 (by decide) (fun h4 => ?_) (fun h4 => ?_)
            · have h4 : 64 ≤ k := (nI_leI (a := 64) (b := k) (by omega) (by omega)).mp h4
              have e8 : k = 64 := by omega
              have hX8 : SrcX x v sh sd 64 := by rw [← e8]; exact hX
              refine lv_aload_n hx hy dX4_fillSource_54 rfl (lv_at hl 4 rfl) ?_
              refine lv_iload_n hx hy dX4_fillSource_55 rfl (lv_at hl 5 rfl) ?_
              refine lv_iload hx hy dX4_fillSource_56 (lv_at hl 2 rfl) ?_
              refine lv_lload hx hy dX4_fillSource_58 (lv_at hl 1 rfl) ?_
              refine zV hI (xV F hI hl (kX4_setWord l E ((u.1, g)) j v (by omega) (by omega) x) M_X4_38 (rX4 F hI) rfl ⟨Nat.le_of_ble_eq_true rfl, Nat.le_of_ble_eq_true rfl⟩ ⟨Nat.zero_le _, Nat.zero_le _⟩ rfl (Nat.le_of_ble_eq_true rfl) dX4_fillSource_60) (fun v7 H locs hI hp5 => ?_)
              subst hp5
              obtain ⟨g8, eg8⟩ : ∃ z9 : GF, z9 = upG g j v x := ⟨_, rfl⟩
              have hI : Iv E s H locs (u.1, g8) := by rw [eg8]; exact hI
              refine lv_iinc (v := nI (v + 1)) (lv' := [(6, .int (nI (v + 1))), (9, .int (nI k)), (7, .long (x)), (5, .int (nI (reg sd (64 * v + k)))), (0, .ref (eA E 9)), (1, .int (nI j)), (2, .int (nI sh)), (3, .int (nI sd)), (4, .int (nI w))]) hx hy dX4_fillSource_63 hl (k := 2) rfl (nI_add (v) 1) (by decide) rfl (fun ls hl => ?_)
              rw [show 64 * v + k = 64 * (v + 1) from by omega] at hl
              refine lv_goto (tgt := 6) hx hy dX4_fillSource_66 (by decide) ?_
              exact ih_6 (v + 1) g8 (by omega) (by omega) (hG.step hO hX8 eg8).1 (hG.step hO hX8 eg8).2 _ _ _ hI (lv_sub hl [0, 3, 4, 5, 6, 7, 8] rfl)
            · have h4 : k < 64 := Nat.lt_of_not_le (fun q9 => h4 ((nI_leI (a := 64) (b := k) (by omega) (by omega)).mpr q9))
              refine lv_iload hx hy dX4_fillSource_26 (lv_at hl 3 rfl) ?_
              refine lv_iload_n hx hy dX4_fillSource_28 rfl (lv_at hl 6 rfl) ?_
              refine lv_icmp_gt (tgt := 41) hx hy dX4_fillSource_29 (by decide) (fun h9 => ?_) (fun h9 => ?_)
              · have h9 : sh < reg sd (64 * v + k) := (nI_ltI (a := sh) (b := reg sd (64 * v + k)) (by omega) (by have := reg_lt hsd (64 * v + k); omega)).mp h9
                refine lv_iload hx hy dX4_fillSource_41 (lv_at hl 3 rfl) ?_
                refine zI hI (xS F hI hl (kX4_nextRegister l E ((u.1, g)) (reg sd (64 * v + k)) (reg_lt hsd _)) M_X4_42 rfl ⟨Nat.le_of_ble_eq_true rfl, Nat.le_of_ble_eq_true rfl⟩ ⟨Nat.zero_le _, Nat.zero_le _⟩ rfl (Nat.le_of_ble_eq_true rfl) dX4_fillSource_43) (fun r11 v12 H locs hI hp10 => ?_)
                subst hp10
                refine lv_istore (lv' := [(5, .int (nI (nr (reg sd (64 * v + k))))), (9, .int (nI k)), (7, .long (x)), (6, .int (nI v)), (0, .ref (eA E 9)), (1, .int (nI j)), (2, .int (nI sh)), (3, .int (nI sd)), (4, .int (nI w))]) hx hy dX4_fillSource_46 hl (by decide) rfl (fun ls hl => ?_)
                have hl : lv_has ls 10 [(5, .int (nI (reg sd (64 * v + (k + 1))))), (9, .int (nI k)), (7, .long (x)), (6, .int (nI v)), (0, .ref (eA E 9)), (1, .int (nI j)), (2, .int (nI sh)), (3, .int (nI sd)), (4, .int (nI w))] := hl
                refine lv_iinc (v := nI (k + 1)) (lv' := [(9, .int (nI (k + 1))), (5, .int (nI (reg sd (64 * v + (k + 1))))), (7, .long (x)), (6, .int (nI v)), (0, .ref (eA E 9)), (1, .int (nI j)), (2, .int (nI sh)), (3, .int (nI sd)), (4, .int (nI w))]) hx hy dX4_fillSource_48 hl (k := 1) rfl (nI_add (k) 1) (by decide) rfl (fun ls hl => ?_)
                refine lv_goto (tgt := 19) hx hy dX4_fillSource_51 (by decide) ?_
                exact ih_19 (k + 1) (x) (by omega) (by omega) (hX.skip (by omega) (by omega)) _ _ _ hI (lv_sub hl [0, 2, 3, 1, 4, 5, 6, 7, 8] rfl)
              · have h9 : reg sd (64 * v + k) ≤ sh := Nat.le_of_not_lt (fun q9 => h9 ((nI_ltI (a := sh) (b := reg sd (64 * v + k)) (by omega) (by have := reg_lt hsd (64 * v + k); omega)).mpr q9))
                refine lv_lload hx hy dX4_fillSource_32 (lv_at hl 1 rfl) ?_
                refine lv_lconst (v := lN 1) hx hy dX4_fillSource_34 (by decide) ?_
                refine lv_iload hx hy dX4_fillSource_35 (lv_at hl 0 rfl) ?_
                refine lv_lshl (v := (lN 1) <<< (Int32.toInt64 (nI k) &&& 63)) hx hy dX4_fillSource_37 rfl ?_
                refine lv_lor hx hy dX4_fillSource_38 ?_
                refine lv_lstore (lv' := [(7, .long (x ||| ((lN 1) <<< (Int32.toInt64 (nI k) &&& 63)))), (9, .int (nI k)), (6, .int (nI v)), (5, .int (nI (reg sd (64 * v + k)))), (0, .ref (eA E 9)), (1, .int (nI j)), (2, .int (nI sh)), (3, .int (nI sd)), (4, .int (nI w))]) hx hy dX4_fillSource_39 hl (by decide) rfl (fun ls hl => ?_)
                refine lv_iload hx hy dX4_fillSource_41 (lv_at hl 3 rfl) ?_
                refine zI hI (xS F hI hl (kX4_nextRegister l E ((u.1, g)) (reg sd (64 * v + k)) (reg_lt hsd _)) M_X4_42 rfl ⟨Nat.le_of_ble_eq_true rfl, Nat.le_of_ble_eq_true rfl⟩ ⟨Nat.zero_le _, Nat.zero_le _⟩ rfl (Nat.le_of_ble_eq_true rfl) dX4_fillSource_43) (fun r14 v15 H locs hI hp13 => ?_)
                subst hp13
                refine lv_istore (lv' := [(5, .int (nI (nr (reg sd (64 * v + k))))), (7, .long (x ||| ((lN 1) <<< (Int32.toInt64 (nI k) &&& 63)))), (9, .int (nI k)), (6, .int (nI v)), (0, .ref (eA E 9)), (1, .int (nI j)), (2, .int (nI sh)), (3, .int (nI sd)), (4, .int (nI w))]) hx hy dX4_fillSource_46 hl (by decide) rfl (fun ls hl => ?_)
                have hl : lv_has ls 10 [(5, .int (nI (reg sd (64 * v + (k + 1))))), (7, .long (x ||| ((lN 1) <<< (Int32.toInt64 (nI k) &&& 63)))), (9, .int (nI k)), (6, .int (nI v)), (0, .ref (eA E 9)), (1, .int (nI j)), (2, .int (nI sh)), (3, .int (nI sd)), (4, .int (nI w))] := hl
                refine lv_iinc (v := nI (k + 1)) (lv' := [(9, .int (nI (k + 1))), (5, .int (nI (reg sd (64 * v + (k + 1))))), (7, .long (x ||| ((lN 1) <<< (Int32.toInt64 (nI k) &&& 63)))), (6, .int (nI v)), (0, .ref (eA E 9)), (1, .int (nI j)), (2, .int (nI sh)), (3, .int (nI sd)), (4, .int (nI w))]) hx hy dX4_fillSource_48 hl (k := 2) rfl (nI_add (k) 1) (by decide) rfl (fun ls hl => ?_)
                refine lv_goto (tgt := 19) hx hy dX4_fillSource_51 (by decide) ?_
                exact ih_19 (k + 1) (x ||| ((lN 1) <<< (Int32.toInt64 (nI k) &&& 63))) (by omega) (by omega) (hX.set (by omega) h9) _ _ _ hI (lv_sub hl [0, 2, 3, 1, 4, 5, 6, 7, 8] rfl)
        exact lp3 65 0 (lN 0) (by omega) (by omega) (SrcX.start v sh sd) _ _ _ hI (lv_sub hl [0, 1, 2, 3, 4, 5, 6, 7, 8] rfl)
  exact lp1 (w + 1) 0 u.2 (Nat.zero_le _) (by omega) (fun v hv => absurd hv (Nat.not_lt_zero v)) (fun _ _ _ => rfl) _ _ _ hI (lv_sub hl [0, 1, 2, 3, 4, 5, 6] rfl)
set_option maxHeartbeats 400000 in
set_option maxRecDepth 100000 in
theorem kX4_fillRow (l : Launch) (E : EV) (u : SS) {b n : Nat} {f : Nat → Ln} (hb : b < 7) (hR : RepL b u.1 n f) (h16 : n ≤ 16) (j tk w : Nat) (hj : j < n) (hok : LnOk j (f j)) (htk : tk ≤ 1000) (hw : w = (tk + 64 - 1) / 64) (hW : ∀ i, i < j → RowG u.2 f i w) : CT l yX4_fillRow cX4_fillRow 6 none (Rm 3 72) [.ref (eA E 9), .ref (eA E (10 + 3 * b)), .int (nI j), .int (nI tk)] E u (Q_v E (fun g => RowG g f j w ∧ OthG j u.2 g) (fun (g : GF) => (u.1, g))) := by
  refine mstart RX4 (by decide +kernel) rfl (Nat.le_of_ble_eq_true rfl) ?_
  intro p e s m args below meth co ls Q hQ F hI hl
  have hx := F.1
  have hy := F.2.1
  have hl : lv_has ls 6 [(0, .ref (eA E 9)), (1, .ref (eA E (10 + 3 * b))), (2, .int (nI j)), (3, .int (nI tk))] := hl
  have hk6 := hok.1
  have hB9 := hok.2.2.2.2.2.2.1
  have hw16 : w ≤ 16 := by omega
  refine lv_iload_n hx hy dX4_fillRow_0 rfl (lv_at hl 3 rfl) ?_
  refine lv_bipush (v := nI 64) hx hy dX4_fillRow_1 (by decide) ?_
  refine lv_iadd hx hy dX4_fillRow_3 ?_
  refine tI (nI_add (tk) (64)) ?_
  refine lv_iconst (v := nI 1) hx hy dX4_fillRow_4 (by decide) ?_
  refine lv_isub hx hy dX4_fillRow_5 ?_
  refine tI (pk_sub (a := tk + 64) (b := 1) (by omega)) ?_
  refine lv_bipush (v := nI 64) hx hy dX4_fillRow_6 (by decide) ?_
  refine lv_idiv hx hy dX4_fillRow_8 (fun q => absurd ((nI_eq (by omega) (by omega)).mp (show nI (64) = nI 0 from q)) (by omega)) ?_
  refine tI (pk_div (a := (tk + 64) - 1) (d := 64) (by omega) (by omega) (by omega)) ?_
  refine tI (show _ = nI w from by rw [hw]) ?_
  refine lv_istore (lv' := [(4, .int (nI w)), (0, .ref (eA E 9)), (1, .ref (eA E (10 + 3 * b))), (2, .int (nI j)), (3, .int (nI tk))]) hx hy dX4_fillRow_9 hl (by decide) rfl (fun ls hl => ?_)
  refine lv_aload_n hx hy dX4_fillRow_11 rfl (lv_at hl 2 rfl) ?_
  refine lv_iload_n hx hy dX4_fillRow_12 rfl (lv_at hl 3 rfl) ?_
  refine zI hI (xV F hI hl (kX0_kindOf l E (u) (b := b) hb (nI j)) M_X4_20 (rX0 F hI (b := b) hb) rfl ⟨Nat.le_of_ble_eq_true rfl, Nat.le_of_ble_eq_true rfl⟩ ⟨Nat.zero_le _, Nat.zero_le _⟩ rfl (Nat.le_of_ble_eq_true rfl) dX4_fillRow_13) (fun r2 v3 H locs hI hp1 => ?_)
  rw [el_lt (by omega) (by decide)] at hp1
  subst hp1
  refine tI (hR.2 j hj).1 ?_
  refine lv_if_ne (tgt := 39) hx hy dX4_fillRow_16 (by decide) (fun h4 => ?_) (fun h4 => ?_)
  · have h4 : (f j).1 ≠ 0 := fun q9 => h4 ((nI_eq (a := (f j).1) (b := 0) (by omega) (by omega)).mpr q9)
    refine lv_iconst (v := nI 0) hx hy dX4_fillRow_39 (by decide) ?_
    refine lv_istore (lv' := [(5, .int (nI 0)), (4, .int (nI w)), (0, .ref (eA E 9)), (1, .ref (eA E (10 + 3 * b))), (2, .int (nI j)), (3, .int (nI tk))]) hx hy dX4_fillRow_40 hl (by decide) rfl (fun ls hl => ?_)
    have lp5 : ∀ (fu : Nat) (v : Nat) (g : GF), (v ≤ w) → (w - v < fu) → (RowG g f j v) → (OthG j u.2 g) →  ∀ (H : Heap) (locs : List Loc) (ls : Array Slot), Iv E s H locs ((u.1, g)) → lv_has ls 6 [(5, .int (nI v)), (4, .int (nI w)), (0, .ref (eA E 9)), (1, .ref (eA E (10 + 3 * b))), (2, .int (nI j)), (3, .int (nI tk))] → W p l e (Rm 3 72) s m args below meth co H locs 0 0 Q (F0 m 42 ls []) := by
      intro fu
      induction fu with
      | zero => intro v g hi hf hG hO; exact absurd hf (Nat.not_lt_zero _)
      | succ fu ih =>
        intro v g hi hf hG hO H locs ls hI hl
        have ih_42 := ih
        refine lv_iload hx hy dX4_fillRow_42 (lv_at hl 0 rfl) ?_
        refine lv_iload hx hy dX4_fillRow_44 (lv_at hl 1 rfl) ?_
        refine lv_icmp_ge (tgt := 70) hx hy dX4_fillRow_46 (by decide) (fun h6 => ?_) (fun h6 => ?_)
        · have h6 : w ≤ v := (nI_leI (a := w) (b := v) (by omega) (by omega)).mp h6
          exact rV hQ F (v := g) hI dX4_fillRow_70 (by have e9 : v = w := (by omega); rw [← e9]; exact ⟨hG, hO⟩)
        · have h6 : v < w := Nat.lt_of_not_le (fun q9 => h6 ((nI_leI (a := w) (b := v) (by omega) (by omega)).mpr q9))
          refine lv_aload_n hx hy dX4_fillRow_49 rfl (lv_at hl 2 rfl) ?_
          refine lv_iload_n hx hy dX4_fillRow_50 rfl (lv_at hl 4 rfl) ?_
          refine lv_iload hx hy dX4_fillRow_51 (lv_at hl 0 rfl) ?_
          refine lv_aload_n hx hy dX4_fillRow_53 rfl (lv_at hl 2 rfl) ?_
          refine lv_aload_n hx hy dX4_fillRow_54 rfl (lv_at hl 3 rfl) ?_
          refine lv_iload_n hx hy dX4_fillRow_55 rfl (lv_at hl 4 rfl) ?_
          refine lv_iload hx hy dX4_fillRow_56 (lv_at hl 0 rfl) ?_
          refine zL hI (xV F hI hl (kX4_madeWord l E ((u.1, g)) (b := b) (n := n) (f := f) hb hR h16 j v hj hok (by omega) (by omega) (fun i hi => ((hW i hi).keep hO (by omega)).less (by omega))) M_X4_34 (rX4 F hI) rfl ⟨Nat.le_of_ble_eq_true rfl, Nat.le_of_ble_eq_true rfl⟩ ⟨Nat.zero_le _, Nat.zero_le _⟩ rfl (Nat.le_of_ble_eq_true rfl) dX4_fillRow_58) (fun r8 v9 H locs hI hp7 => ?_)
          refine zV hI (xV F hI hl (kX4_setWord l E ((u.1, g)) j v (by omega) (by omega) r8) M_X4_38 (rX4 F hI) rfl ⟨Nat.le_of_ble_eq_true rfl, Nat.le_of_ble_eq_true rfl⟩ ⟨Nat.zero_le _, Nat.zero_le _⟩ rfl (Nat.le_of_ble_eq_true rfl) dX4_fillRow_61) (fun v12 H locs hI hp10 => ?_)
          subst hp10
          obtain ⟨g13, eg13⟩ : ∃ z9 : GF, z9 = upG g j v r8 := ⟨_, rfl⟩
          have hI : Iv E s H locs (u.1, g13) := by rw [eg13]; exact hI
          refine lv_iinc (v := nI (v + 1)) (lv' := [(5, .int (nI (v + 1))), (4, .int (nI w)), (0, .ref (eA E 9)), (1, .ref (eA E (10 + 3 * b))), (2, .int (nI j)), (3, .int (nI tk))]) hx hy dX4_fillRow_64 hl (k := 0) rfl (nI_add (v) 1) (by decide) rfl (fun ls hl => ?_)
          refine lv_goto (tgt := 42) hx hy dX4_fillRow_67 (by decide) ?_
          exact ih_42 (v + 1) g13 (by omega) (by omega) (hG.step hO hp7 eg13).1 (hG.step hO hp7 eg13).2 _ _ _ hI (lv_sub hl [0, 1, 2, 3, 4, 5] rfl)
    exact lp5 (w + 1) 0 u.2 (Nat.zero_le _) (by omega) (fun v hv => absurd hv (Nat.not_lt_zero v)) (fun _ _ _ => rfl) _ _ _ hI (lv_sub hl [0, 1, 2, 3, 4, 5] rfl)
  · have h4 : (f j).1 = 0 := (nI_eq (a := (f j).1) (b := 0) (by omega) (by omega)).mp h4
    refine lv_aload_n hx hy dX4_fillRow_19 rfl (lv_at hl 1 rfl) ?_
    refine lv_iload_n hx hy dX4_fillRow_20 rfl (lv_at hl 3 rfl) ?_
    refine lv_aload_n hx hy dX4_fillRow_21 rfl (lv_at hl 2 rfl) ?_
    refine lv_iload_n hx hy dX4_fillRow_22 rfl (lv_at hl 3 rfl) ?_
    refine lv_iconst (v := nI 1) hx hy dX4_fillRow_23 (by decide) ?_
    refine zI hI (xV F hI hl (kX0_numberOf l E (u) (b := b) hb (nI j) (nI 1)) M_X4_26 (rX0 F hI (b := b) hb) rfl ⟨Nat.le_of_ble_eq_true rfl, Nat.le_of_ble_eq_true rfl⟩ ⟨Nat.zero_le _, Nat.zero_le _⟩ rfl (Nat.le_of_ble_eq_true rfl) dX4_fillRow_24) (fun r15 v16 H locs hI hp14 => ?_)
    rw [show nI j * nI 3 + nI 1 - nI 1 = nI (3 * j) from ix3 j 0, el_lt (by omega) (by decide)] at hp14
    subst hp14
    refine tI (hR.2 j hj).2.1 ?_
    refine lv_aload_n hx hy dX4_fillRow_27 rfl (lv_at hl 2 rfl) ?_
    refine lv_iload_n hx hy dX4_fillRow_28 rfl (lv_at hl 3 rfl) ?_
    refine lv_iconst (v := nI 2) hx hy dX4_fillRow_29 (by decide) ?_
    refine zI hI (xV F hI hl (kX0_numberOf l E (u) (b := b) hb (nI j) (nI 2)) M_X4_26 (rX0 F hI (b := b) hb) rfl ⟨Nat.le_of_ble_eq_true rfl, Nat.le_of_ble_eq_true rfl⟩ ⟨Nat.zero_le _, Nat.zero_le _⟩ rfl (Nat.le_of_ble_eq_true rfl) dX4_fillRow_30) (fun r18 v19 H locs hI hp17 => ?_)
    rw [show nI j * nI 3 + nI 2 - nI 1 = nI (3 * j + 1) from ix3 j 1, el_lt (by omega) (by decide)] at hp17
    subst hp17
    refine tI (hR.2 j hj).2.2.1 ?_
    refine lv_iload hx hy dX4_fillRow_33 (lv_at hl 0 rfl) ?_
    refine zV hI (xV F hI hl (kX4_fillSource l E (u) j ((f j).2.1) ((f j).2.2.1) w (by omega) (hok.2.1 (by omega)).1 (by have := (hok.2.1 (by omega)).2.2; omega) hw16) M_X4_30 (rX4 F hI) rfl ⟨Nat.le_of_ble_eq_true rfl, Nat.le_of_ble_eq_true rfl⟩ ⟨Nat.zero_le _, Nat.zero_le _⟩ rfl (Nat.le_of_ble_eq_true rfl) dX4_fillRow_35) (fun v22 H locs hI hp20 => ?_)
    exact rV hQ F (v := v22) hI dX4_fillRow_38 ⟨fun v hv t ht => by rw [hp20.1 v hv t ht, bt_0 hok (by omega)], hp20.2⟩
set_option maxHeartbeats 400000 in
set_option maxRecDepth 100000 in
theorem kX4_fill (l : Launch) (E : EV) (u : SS) {b n : Nat} {f : Nat → Ln} (hb : b < 7) (hR : RepL b u.1 n f) (h16 : n ≤ 16) (hok : ∀ j, j < n → LnOk j (f j)) (la : Int32) (k tk w : Nat) (hla : la = nI k - 1) (hk : k ≤ n) (htk : tk ≤ 1000) (hw : w = (tk + 64 - 1) / 64) : CT l yX4_fill cX4_fill 5 none (Rm 4 97) [.ref (eA E 9), .ref (eA E (10 + 3 * b)), .int (la), .int (nI tk)] E u (Q_v E (fun g => ∀ i, i < k → RowG g f i w) (fun (g : GF) => (u.1, g))) := by
  refine mstart RX4 (by decide +kernel) rfl (Nat.le_of_ble_eq_true rfl) ?_
  intro p e s m args below meth co ls Q hQ F hI hl
  have hx := F.1
  have hy := F.2.1
  have hl : lv_has ls 5 [(0, .ref (eA E 9)), (1, .ref (eA E (10 + 3 * b))), (2, .int (la)), (3, .int (nI tk))] := hl
  refine lv_iconst (v := nI 0) hx hy dX4_fill_0 (by decide) ?_
  refine lv_istore (lv' := [(4, .int (nI 0)), (0, .ref (eA E 9)), (1, .ref (eA E (10 + 3 * b))), (2, .int (la)), (3, .int (nI tk))]) hx hy dX4_fill_1 hl (by decide) rfl (fun ls hl => ?_)
  have lp1 : ∀ (fu : Nat) (i : Nat) (g : GF), (i ≤ k) → (k - i < fu) → (∀ a, a < i → RowG g f a w) →  ∀ (H : Heap) (locs : List Loc) (ls : Array Slot), Iv E s H locs ((u.1, g)) → lv_has ls 5 [(4, .int (nI i)), (0, .ref (eA E 9)), (1, .ref (eA E (10 + 3 * b))), (2, .int (la)), (3, .int (nI tk))] → W p l e (Rm 4 97) s m args below meth co H locs 0 0 Q (F0 m 3 ls []) := by
    intro fu
    induction fu with
    | zero => intro i g hi hf hG; exact absurd hf (Nat.not_lt_zero _)
    | succ fu ih =>
      intro i g hi hf hG H locs ls hI hl
      have ih_3 := ih
      refine lv_iload hx hy dX4_fill_3 (lv_at hl 0 rfl) ?_
      refine lv_iload_n hx hy dX4_fill_5 rfl (lv_at hl 3 rfl) ?_
      refine lv_icmp_gt (tgt := 30) hx hy dX4_fill_6 (by decide) (fun h2 => ?_) (fun h2 => ?_)
      · exact rV hQ F (v := g) hI dX4_fill_30 (fun a ha => hG a (by have := la_ge hla (by omega) (by omega) h2; omega))
      · have hik : i < k := la_lt hla (by omega) (by omega) h2
        refine lv_iload hx hy dX4_fill_9 (lv_at hl 0 rfl) ?_
        refine lv_bipush (v := nI 16) hx hy dX4_fill_11 (by decide) ?_
        refine lv_icmp_ge (tgt := 30) hx hy dX4_fill_13 (by decide) (fun h3 => ?_) (fun h3 => ?_)
        · have h3 : 16 ≤ i := (nI_leI (a := 16) (b := i) (by omega) (by omega)).mp h3
          exact absurd h3 (by omega)
        · have h3 : i < 16 := Nat.lt_of_not_le (fun q9 => h3 ((nI_leI (a := 16) (b := i) (by omega) (by omega)).mpr q9))
          refine lv_aload_n hx hy dX4_fill_16 rfl (lv_at hl 1 rfl) ?_
          refine lv_aload_n hx hy dX4_fill_17 rfl (lv_at hl 2 rfl) ?_
          refine lv_iload hx hy dX4_fill_18 (lv_at hl 0 rfl) ?_
          refine lv_iload_n hx hy dX4_fill_20 rfl (lv_at hl 4 rfl) ?_
          refine zV hI (xV F hI hl (kX4_fillRow l E ((u.1, g)) (b := b) (n := n) (f := f) hb hR h16 i tk w (by omega) (hok i (by omega)) htk hw hG) M_X4_16 (rX4 F hI) rfl ⟨Nat.le_of_ble_eq_true rfl, Nat.le_of_ble_eq_true rfl⟩ ⟨Nat.zero_le _, Nat.zero_le _⟩ rfl (Nat.le_of_ble_eq_true rfl) dX4_fill_21) (fun v6 H locs hI hp4 => ?_)
          refine lv_iinc (v := nI (i + 1)) (lv' := [(4, .int (nI (i + 1))), (0, .ref (eA E 9)), (1, .ref (eA E (10 + 3 * b))), (2, .int (la)), (3, .int (nI tk))]) hx hy dX4_fill_24 hl (k := 0) rfl (nI_add (i) 1) (by decide) rfl (fun ls hl => ?_)
          refine lv_goto (tgt := 3) hx hy dX4_fill_27 (by decide) ?_
          exact ih_3 (i + 1) v6 (by omega) (by omega) (fun a ha => by rcases Nat.lt_or_ge a i with q9 | q9; exact (hG a q9).keep hp4.2 (by omega); rw [show a = i from by omega]; exact hp4.1) _ _ _ hI (lv_sub hl [0, 1, 2, 3, 4] rfl)
  exact lp1 (k + 1) 0 u.2 (Nat.zero_le _) (by omega) (fun v hv => absurd hv (Nat.not_lt_zero v)) _ _ _ hI (lv_sub hl [0, 1, 2, 3, 4] rfl)
end
section
/-! how many bits are set: the JDK's way of counting them -/
theorem wb_tb (n : Nat) : (lN n).toBitVec = BitVec.ofNat 64 n := rfl
theorem wb_inj {a b : Int64} (h : a.toBitVec = b.toBitVec) : a = b := Int64.toBitVec_inj.mp h
theorem wb_tn {n : Nat} (h : n < 2 ^ 64) : (lN n).toBitVec.toNat = n := by rw [wb_tb, BitVec.toNat_ofNat, Nat.mod_eq_of_lt h]
theorem wb_of (x : Int64) : ∃ n, n < 2 ^ 64 ∧ x = lN n := ⟨x.toBitVec.toNat, x.toBitVec.isLt, wb_inj (by rw [wb_tb]; simp)⟩
theorem wb_of32 (x : Int32) : ∃ n, n < 2 ^ 32 ∧ x = nI n := ⟨x.toBitVec.toNat, x.toBitVec.isLt, Int32.toBitVec_inj.mp (by show _ = BitVec.ofNat 32 _; simp)⟩
theorem wb_cu : ∀ k, k < 64 → ((nI k).toInt64.toUInt64 &&& Int64.toUInt64 63) = UInt64.ofNat k := by decide +kernel
theorem wb_shr {n k : Nat} (hn : n < 2 ^ 64) (hk : k < 64) : ((lN n).toUInt64 >>> ((nI k).toInt64.toUInt64 &&& Int64.toUInt64 63)).toInt64 = lN (n / 2 ^ k) := by
  rw [wb_cu k hk]
  apply wb_inj
  apply BitVec.eq_of_toNat_eq
  show ((lN n).toUInt64 >>> UInt64.ofNat k).toNat = (BitVec.ofNat 64 _).toNat
  have h1 : (UInt64.ofNat k).toNat = k := by
    show (BitVec.ofNat 64 k).toNat = k
    rw [BitVec.toNat_ofNat, Nat.mod_eq_of_lt (by omega)]
  have h2 : (lN n).toUInt64.toNat = n := wb_tn hn
  rw [UInt64.toNat_shiftRight, h1, h2, Nat.mod_eq_of_lt hk, Nat.shiftRight_eq_div_pow, BitVec.toNat_ofNat, Nat.mod_eq_of_lt (Nat.lt_of_le_of_lt (Nat.div_le_self _ _) hn)]
theorem lN_and (a b : Nat) : lN a &&& lN b = lN (a &&& b) := by
  apply wb_inj
  apply BitVec.eq_of_getLsbD_eq
  intro i hi
  show ((BitVec.ofNat 64 a) &&& (BitVec.ofNat 64 b)).getLsbD i = (BitVec.ofNat 64 (a &&& b)).getLsbD i
  simp [hi]
theorem nI_and (a b : Nat) : nI a &&& nI b = nI (a &&& b) := by
  apply Int32.toBitVec_inj.mp
  apply BitVec.eq_of_getLsbD_eq
  intro i hi
  show ((BitVec.ofNat 32 a) &&& (BitVec.ofNat 32 b)).getLsbD i = (BitVec.ofNat 32 (a &&& b)).getLsbD i
  simp [hi]
theorem nI_or (a b : Nat) : nI a ||| nI b = nI (a ||| b) := by
  apply Int32.toBitVec_inj.mp
  apply BitVec.eq_of_getLsbD_eq
  intro i hi
  show ((BitVec.ofNat 32 a) ||| (BitVec.ofNat 32 b)).getLsbD i = (BitVec.ofNat 32 (a ||| b)).getLsbD i
  simp [hi]
/-- a mask of n equal bytes -/
def mm (v : Nat) : Nat → Nat
  | 0 => 0
  | n + 1 => 2 ^ 8 * mm v n + v
theorem tb2 (Z y j : Nat) (h : y < 2 ^ 8) : (2 ^ 8 * Z + y).testBit j = if j < 8 then y.testBit j else Z.testBit (j - 8) := Nat.testBit_two_pow_mul_add Z h j
theorem pick_s {y Z v M t : Nat} (hy : y < 2 ^ 8) (hv : v < 2 ^ 8) (ht : t ≤ 8) (hvs : v < 2 ^ (8 - t)) : ((2 ^ 8 * Z + y) / 2 ^ t) &&& (2 ^ 8 * M + v) = 2 ^ 8 * ((Z / 2 ^ t) &&& M) + ((y / 2 ^ t) &&& v) := by
  apply Nat.eq_of_testBit_eq
  intro i
  have hlt : (y / 2 ^ t) &&& v < 2 ^ 8 := Nat.lt_of_le_of_lt Nat.and_le_right hv
  rw [Nat.testBit_and, Nat.testBit_div_two_pow, tb2 _ _ _ hy, tb2 _ _ _ hv, tb2 _ _ _ hlt, Nat.testBit_and, Nat.testBit_div_two_pow, Nat.testBit_and, Nat.testBit_div_two_pow]
  by_cases h8 : i < 8
  · rw [if_pos h8, if_pos h8]
    by_cases h2 : i + t < 8
    · rw [if_pos h2]
    · have hz : v.testBit i = false := Nat.testBit_lt_two_pow (Nat.lt_of_lt_of_le hvs (Nat.pow_le_pow_right (by decide) (by omega)))
      rw [hz, Bool.and_false, Bool.and_false]
  · rw [if_neg h8, if_neg h8, if_neg (by omega)]
    congr 2
    omega
def g1 (y : Nat) : Nat := y - ((y / 2 ^ 1) &&& 85)
def g2 (y : Nat) : Nat := ((y / 2 ^ 0) &&& 51) + ((y / 2 ^ 2) &&& 51)
def a1 (n X : Nat) : Nat := X - ((X / 2 ^ 1) &&& mm 85 n)
def a2 (n X : Nat) : Nat := ((X / 2 ^ 0) &&& mm 51 n) + ((X / 2 ^ 2) &&& mm 51 n)
theorem g_tab : ∀ y, y < 256 → g1 y < 256 ∧ g2 (g1 y) / 16 ≤ 4 ∧ g2 (g1 y) % 16 ≤ 4 ∧ g2 (g1 y) < 256 ∧ g2 (g1 y) / 16 + g2 (g1 y) % 16 = fb_ct (fun t => y.testBit t) 8 := by decide +kernel
theorem a1_s (n Z : Nat) {y : Nat} (hy : y < 2 ^ 8) : a1 (n + 1) (2 ^ 8 * Z + y) = 2 ^ 8 * a1 n Z + g1 y := by
  unfold a1 g1
  show (2 ^ 8 * Z + y) - (((2 ^ 8 * Z + y) / 2 ^ 1) &&& (2 ^ 8 * mm 85 n + 85)) = _
  rw [pick_s hy (by decide) (by decide) (by decide)]
  have h1 : (Z / 2 ^ 1) &&& mm 85 n ≤ Z := Nat.le_trans Nat.and_le_left (Nat.div_le_self _ _)
  have h2 : (y / 2 ^ 1) &&& 85 ≤ y := Nat.le_trans Nat.and_le_left (Nat.div_le_self _ _)
  omega
theorem a2_s (n Z : Nat) {y : Nat} (hy : y < 2 ^ 8) : a2 (n + 1) (2 ^ 8 * Z + y) = 2 ^ 8 * a2 n Z + g2 y := by
  unfold a2 g2
  show (((2 ^ 8 * Z + y) / 2 ^ 0) &&& (2 ^ 8 * mm 51 n + 51)) + (((2 ^ 8 * Z + y) / 2 ^ 2) &&& (2 ^ 8 * mm 51 n + 51)) = _
  rw [pick_s hy (by decide) (by decide) (by decide), pick_s hy (by decide) (by decide) (by decide)]
  omega
theorem pick_n {c h Z M : Nat} (hc : c < 16) (hh : h < 16) : (2 ^ 8 * Z + (16 * h + c)) &&& (2 ^ 8 * M + 15) = 2 ^ 8 * (Z &&& M) + c := by
  have h1 := pick_s (y := 16 * h + c) (Z := Z) (v := 15) (M := M) (t := 0) (by omega) (by decide) (by decide) (by decide)
  rw [Nat.pow_zero, Nat.div_one, Nat.div_one, Nat.div_one] at h1
  rw [h1]
  have h2 : ∀ h, h < 16 → ∀ c, c < 16 → (16 * h + c) &&& 15 = c := by decide +kernel
  rw [h2 h hh c hc]
/-- bits of bytes -/
theorem ct_byte (Z : Nat) {y : Nat} (hy : y < 2 ^ 8) (n : Nat) : fb_ct (fun t => (2 ^ 8 * Z + y).testBit t) (8 + n) = fb_ct (fun t => y.testBit t) 8 + fb_ct (fun t => Z.testBit t) n := by
  rw [fb_ct_split]
  congr 1
  · exact fb_ct_cong fun k hk => by rw [tb2 _ _ _ hy, if_pos hk]
  · exact fb_ct_cong fun k hk => by rw [tb2 _ _ _ hy, if_neg (by omega)]; congr 1; omega
theorem byte_of (X : Nat) : ∃ Z y, y < 2 ^ 8 ∧ X = 2 ^ 8 * Z + y := ⟨X / 2 ^ 8, X % 2 ^ 8, Nat.mod_lt _ (by decide), (Nat.div_add_mod _ _).symm⟩
theorem ct_0 (n : Nat) : fb_ct (fun t => (0 : Nat).testBit t) n = 0 := fb_ct_zero.mpr fun k _ => Nat.zero_testBit k
def cP : Nat → List (Nat × Nat) → Nat
  | 0, _ => 0
  | _, [] => 0
  | n + 1, q :: l => 2 ^ 8 * cP n l + (16 * q.1 + q.2)
/-- four bytes -/
theorem bc4 {X : Nat} (hX : X < 2 ^ 32) {B C D E : Nat} (hB : B = a2 4 (a1 4 X)) (hC : C = (B + B / 16) &&& mm 15 4) (hD : D = C + C / 2 ^ 8) (hE : E = D + D / 2 ^ 16) : E &&& 63 = fb_ct (fun t => X.testBit t) 32 := by
  obtain ⟨X1, y0, k0, e0⟩ := byte_of X
  obtain ⟨X2, y1, k1, e1⟩ := byte_of X1
  obtain ⟨X3, y2, k2, e2⟩ := byte_of X2
  obtain ⟨X4, y3, k3, e3⟩ := byte_of X3
  have z4 : X4 = 0 := by omega
  obtain ⟨p0, q0, r0, s0, t0⟩ := g_tab y0 (by omega)
  obtain ⟨p1, q1, r1, s1, t1⟩ := g_tab y1 (by omega)
  obtain ⟨p2, q2, r2, s2, t2⟩ := g_tab y2 (by omega)
  obtain ⟨p3, q3, r3, s3, t3⟩ := g_tab y3 (by omega)
  have hct : fb_ct (fun t => X.testBit t) 32 = fb_ct (fun t => y0.testBit t) 8 + (fb_ct (fun t => y1.testBit t) 8 + (fb_ct (fun t => y2.testBit t) 8 + (fb_ct (fun t => y3.testBit t) 8 + 0))) := by
    rw [e0, ct_byte _ k0 24, e1, ct_byte _ k1 16, e2, ct_byte _ k2 8, e3, z4]
    have := ct_byte 0 k3 0
    rw [Nat.add_zero] at this
    rw [this]
    rfl
  rw [hct, ← t0, ← t1, ← t2, ← t3]
  have hB2 : B = 2 ^ 8 * (2 ^ 8 * (2 ^ 8 * (2 ^ 8 * 0 + g2 (g1 y3)) + g2 (g1 y2)) + g2 (g1 y1)) + g2 (g1 y0) := by
    rw [hB, e0, a1_s _ _ k0, a2_s _ _ p0, e1, a1_s _ _ k1, a2_s _ _ p1, e2, a1_s _ _ k2, a2_s _ _ p2, e3, a1_s _ _ k3, a2_s _ _ p3, z4]
    rfl
  generalize g2 (g1 y0) = w0 at *
  generalize g2 (g1 y1) = w1 at *
  generalize g2 (g1 y2) = w2 at *
  generalize g2 (g1 y3) = w3 at *
  obtain ⟨l0, m0, f0, f1⟩ : ∃ l h, l = w0 % 16 ∧ h = w0 / 16 := ⟨_, _, rfl, rfl⟩
  obtain ⟨l1, m1, f2, f3⟩ : ∃ l h, l = w1 % 16 ∧ h = w1 / 16 := ⟨_, _, rfl, rfl⟩
  obtain ⟨l2, m2, f4, f5⟩ : ∃ l h, l = w2 % 16 ∧ h = w2 / 16 := ⟨_, _, rfl, rfl⟩
  obtain ⟨l3, m3, f6, f7⟩ : ∃ l h, l = w3 % 16 ∧ h = w3 / 16 := ⟨_, _, rfl, rfl⟩
  have hB3 : B + B / 16 = 2 ^ 8 * (2 ^ 8 * (2 ^ 8 * (2 ^ 8 * 0 + (16 * m3 + (l3 + m3))) + (16 * (m2 + l3) + (l2 + m2))) + (16 * (m1 + l2) + (l1 + m1))) + (16 * (m0 + l1) + (l0 + m0)) := by omega
  have hC2 : C = 2 ^ 8 * (2 ^ 8 * (2 ^ 8 * (2 ^ 8 * 0 + (l3 + m3)) + (l2 + m2)) + (l1 + m1)) + (l0 + m0) := by
    rw [hC, hB3]
    show _ &&& (2 ^ 8 * (2 ^ 8 * (2 ^ 8 * (2 ^ 8 * 0 + 15) + 15) + 15) + 15) = _
    rw [pick_n (by omega) (by omega), pick_n (by omega) (by omega), pick_n (by omega) (by omega), pick_n (by omega) (by omega)]
    rfl
  clear hB hB2 hB3 hC hct e0 e1 e2 e3
  obtain ⟨c0, n0⟩ : ∃ c, c = l0 + m0 := ⟨_, rfl⟩
  obtain ⟨c1, n1⟩ : ∃ c, c = l1 + m1 := ⟨_, rfl⟩
  obtain ⟨c2, n2⟩ : ∃ c, c = l2 + m2 := ⟨_, rfl⟩
  obtain ⟨c3, n3⟩ : ∃ c, c = l3 + m3 := ⟨_, rfl⟩
  rw [← n0, ← n1, ← n2, ← n3] at hC2
  have b0 : c0 ≤ 8 := by omega
  have b1 : c1 ≤ 8 := by omega
  have b2 : c2 ≤ 8 := by omega
  have b3 : c3 ≤ 8 := by omega
  have hs : w0 / 16 + w0 % 16 + (w1 / 16 + w1 % 16 + (w2 / 16 + w2 % 16 + (w3 / 16 + w3 % 16 + 0))) = c0 + c1 + c2 + c3 := by omega
  rw [hs]
  have hD2 : D = 2 ^ 8 * (2 ^ 8 * (2 ^ 8 * c3 + (c2 + c3)) + (c1 + c2)) + (c0 + c1) := by clear hs; omega
  have hE2 : D / 2 ^ 16 = 2 ^ 8 * c3 + (c2 + c3) := by clear hs hD; omega
  rw [show (63 : Nat) = 2 ^ 6 - 1 from rfl, Nat.and_two_pow_sub_one_eq_mod, hE, hE2, hD2]
  clear hs hD hE hE2 hC2 hD2
  omega
/-- eight bytes -/
theorem bc8 {X : Nat} (hX : X < 2 ^ 64) {B C D E G : Nat} (hB : B = a2 8 (a1 8 X)) (hC : C = (B + B / 16) &&& mm 15 8) (hD : D = C + C / 2 ^ 8) (hE : E = D + D / 2 ^ 16) (hG : G = E + E / 2 ^ 32) : G &&& 127 = fb_ct (fun t => X.testBit t) 64 := by
  obtain ⟨X1, y0, k0, e0⟩ := byte_of X
  obtain ⟨X2, y1, k1, e1⟩ := byte_of X1
  obtain ⟨X3, y2, k2, e2⟩ := byte_of X2
  obtain ⟨X4, y3, k3, e3⟩ := byte_of X3
  obtain ⟨X5, y4, k4, e4⟩ := byte_of X4
  obtain ⟨X6, y5, k5, e5⟩ := byte_of X5
  obtain ⟨X7, y6, k6, e6⟩ := byte_of X6
  obtain ⟨X8, y7, k7, e7⟩ := byte_of X7
  have z8 : X8 = 0 := by omega
  obtain ⟨p0, q0, r0, s0, t0⟩ := g_tab y0 (by omega)
  obtain ⟨p1, q1, r1, s1, t1⟩ := g_tab y1 (by omega)
  obtain ⟨p2, q2, r2, s2, t2⟩ := g_tab y2 (by omega)
  obtain ⟨p3, q3, r3, s3, t3⟩ := g_tab y3 (by omega)
  obtain ⟨p4, q4, r4, s4, t4⟩ := g_tab y4 (by omega)
  obtain ⟨p5, q5, r5, s5, t5⟩ := g_tab y5 (by omega)
  obtain ⟨p6, q6, r6, s6, t6⟩ := g_tab y6 (by omega)
  obtain ⟨p7, q7, r7, s7, t7⟩ := g_tab y7 (by omega)
  have hct : fb_ct (fun t => X.testBit t) 64 = (fb_ct (fun t => y0.testBit t) 8 + (fb_ct (fun t => y1.testBit t) 8 + (fb_ct (fun t => y2.testBit t) 8 + (fb_ct (fun t => y3.testBit t) 8 + (fb_ct (fun t => y4.testBit t) 8 + (fb_ct (fun t => y5.testBit t) 8 + (fb_ct (fun t => y6.testBit t) 8 + (fb_ct (fun t => y7.testBit t) 8 + 0)))))))) := by
    rw [e0, ct_byte _ k0 56, e1, ct_byte _ k1 48, e2, ct_byte _ k2 40, e3, ct_byte _ k3 32, e4, ct_byte _ k4 24, e5, ct_byte _ k5 16, e6, ct_byte _ k6 8, e7, z8]
    have := ct_byte 0 k7 0
    rw [Nat.add_zero] at this
    rw [this]
    rfl
  rw [hct, ← t0, ← t1, ← t2, ← t3, ← t4, ← t5, ← t6, ← t7]
  have hB2 : B = (2 ^ 8 * (2 ^ 8 * (2 ^ 8 * (2 ^ 8 * (2 ^ 8 * (2 ^ 8 * (2 ^ 8 * (2 ^ 8 * 0 + g2 (g1 y7)) + g2 (g1 y6)) + g2 (g1 y5)) + g2 (g1 y4)) + g2 (g1 y3)) + g2 (g1 y2)) + g2 (g1 y1)) + g2 (g1 y0)) := by
    rw [hB, e0, a1_s _ _ k0, a2_s _ _ p0, e1, a1_s _ _ k1, a2_s _ _ p1, e2, a1_s _ _ k2, a2_s _ _ p2, e3, a1_s _ _ k3, a2_s _ _ p3, e4, a1_s _ _ k4, a2_s _ _ p4, e5, a1_s _ _ k5, a2_s _ _ p5, e6, a1_s _ _ k6, a2_s _ _ p6, e7, a1_s _ _ k7, a2_s _ _ p7, z8]
    rfl
  generalize g2 (g1 y0) = w0 at *
  generalize g2 (g1 y1) = w1 at *
  generalize g2 (g1 y2) = w2 at *
  generalize g2 (g1 y3) = w3 at *
  generalize g2 (g1 y4) = w4 at *
  generalize g2 (g1 y5) = w5 at *
  generalize g2 (g1 y6) = w6 at *
  generalize g2 (g1 y7) = w7 at *
  obtain ⟨l0, m0, f0, h0⟩ : ∃ l h, l = w0 % 16 ∧ h = w0 / 16 := ⟨_, _, rfl, rfl⟩
  obtain ⟨l1, m1, f1, h1⟩ : ∃ l h, l = w1 % 16 ∧ h = w1 / 16 := ⟨_, _, rfl, rfl⟩
  obtain ⟨l2, m2, f2, h2⟩ : ∃ l h, l = w2 % 16 ∧ h = w2 / 16 := ⟨_, _, rfl, rfl⟩
  obtain ⟨l3, m3, f3, h3⟩ : ∃ l h, l = w3 % 16 ∧ h = w3 / 16 := ⟨_, _, rfl, rfl⟩
  obtain ⟨l4, m4, f4, h4⟩ : ∃ l h, l = w4 % 16 ∧ h = w4 / 16 := ⟨_, _, rfl, rfl⟩
  obtain ⟨l5, m5, f5, h5⟩ : ∃ l h, l = w5 % 16 ∧ h = w5 / 16 := ⟨_, _, rfl, rfl⟩
  obtain ⟨l6, m6, f6, h6⟩ : ∃ l h, l = w6 % 16 ∧ h = w6 / 16 := ⟨_, _, rfl, rfl⟩
  obtain ⟨l7, m7, f7, h7⟩ : ∃ l h, l = w7 % 16 ∧ h = w7 / 16 := ⟨_, _, rfl, rfl⟩
  clear hct e0 k0 p0 s0 t0 e1 k1 p1 s1 t1 e2 k2 p2 s2 t2 e3 k3 p3 s3 t3 e4 k4 p4 s4 t4 e5 k5 p5 s5 t5 e6 k6 p6 s6 t6 e7 k7 p7 s7 t7
  have v0 : w0 = 16 * m0 + l0 := by omega
  have v1 : w1 = 16 * m1 + l1 := by omega
  have v2 : w2 = 16 * m2 + l2 := by omega
  have v3 : w3 = 16 * m3 + l3 := by omega
  have v4 : w4 = 16 * m4 + l4 := by omega
  have v5 : w5 = 16 * m5 + l5 := by omega
  have v6 : w6 = 16 * m6 + l6 := by omega
  have v7 : w7 = 16 * m7 + l7 := by omega
  have hB3 : B + B / 16 = (2 ^ 8 * (2 ^ 8 * (2 ^ 8 * (2 ^ 8 * (2 ^ 8 * (2 ^ 8 * (2 ^ 8 * (2 ^ 8 * 0 + (16 * m7 + (l7 + m7))) + (16 * (m6 + l7) + (l6 + m6))) + (16 * (m5 + l6) + (l5 + m5))) + (16 * (m4 + l5) + (l4 + m4))) + (16 * (m3 + l4) + (l3 + m3))) + (16 * (m2 + l3) + (l2 + m2))) + (16 * (m1 + l2) + (l1 + m1))) + (16 * (m0 + l1) + (l0 + m0))) := by
    clear hB hC hD hE hG hX z8
    omega
  have hC2 : C = (2 ^ 8 * (2 ^ 8 * (2 ^ 8 * (2 ^ 8 * (2 ^ 8 * (2 ^ 8 * (2 ^ 8 * (2 ^ 8 * 0 + (l7 + m7)) + (l6 + m6)) + (l5 + m5)) + (l4 + m4)) + (l3 + m3)) + (l2 + m2)) + (l1 + m1)) + (l0 + m0)) := by
    rw [hC, hB3]
    show _ &&& (2 ^ 8 * (2 ^ 8 * (2 ^ 8 * (2 ^ 8 * (2 ^ 8 * (2 ^ 8 * (2 ^ 8 * (2 ^ 8 * 0 + 15) + 15) + 15) + 15) + 15) + 15) + 15) + 15) = _
    rw [pick_n (by omega) (by omega), pick_n (by omega) (by omega), pick_n (by omega) (by omega), pick_n (by omega) (by omega), pick_n (by omega) (by omega), pick_n (by omega) (by omega), pick_n (by omega) (by omega), pick_n (by omega) (by omega)]
    rfl
  obtain ⟨c0, n0⟩ : ∃ c, c = l0 + m0 := ⟨_, rfl⟩
  obtain ⟨c1, n1⟩ : ∃ c, c = l1 + m1 := ⟨_, rfl⟩
  obtain ⟨c2, n2⟩ : ∃ c, c = l2 + m2 := ⟨_, rfl⟩
  obtain ⟨c3, n3⟩ : ∃ c, c = l3 + m3 := ⟨_, rfl⟩
  obtain ⟨c4, n4⟩ : ∃ c, c = l4 + m4 := ⟨_, rfl⟩
  obtain ⟨c5, n5⟩ : ∃ c, c = l5 + m5 := ⟨_, rfl⟩
  obtain ⟨c6, n6⟩ : ∃ c, c = l6 + m6 := ⟨_, rfl⟩
  obtain ⟨c7, n7⟩ : ∃ c, c = l7 + m7 := ⟨_, rfl⟩
  rw [← n0, ← n1, ← n2, ← n3, ← n4, ← n5, ← n6, ← n7] at hC2
  have b0 : c0 ≤ 8 := by omega
  have b1 : c1 ≤ 8 := by omega
  have b2 : c2 ≤ 8 := by omega
  have b3 : c3 ≤ 8 := by omega
  have b4 : c4 ≤ 8 := by omega
  have b5 : c5 ≤ 8 := by omega
  have b6 : c6 ≤ 8 := by omega
  have b7 : c7 ≤ 8 := by omega
  have hs : (w0 / 16 + w0 % 16 + (w1 / 16 + w1 % 16 + (w2 / 16 + w2 % 16 + (w3 / 16 + w3 % 16 + (w4 / 16 + w4 % 16 + (w5 / 16 + w5 % 16 + (w6 / 16 + w6 % 16 + (w7 / 16 + w7 % 16 + 0)))))))) = c0 + c1 + c2 + c3 + c4 + c5 + c6 + c7 := by
    rw [n0, n1, n2, n3, n4, n5, n6, n7]
    clear hB hC hD hE hG hX hB2 hB3 hC2
    omega
  rw [hs]
  clear hs hB hB2 hB3 hC hX z8 v0 n0 f0 h0 q0 r0 v1 n1 f1 h1 q1 r1 v2 n2 f2 h2 q2 r2 v3 n3 f3 h3 q3 r3 v4 n4 f4 h4 q4 r4 v5 n5 f5 h5 q5 r5 v6 n6 f6 h6 q6 r6 v7 n7 f7 h7 q7 r7
  have hC3 : C / 2 ^ 8 = (2 ^ 8 * (2 ^ 8 * (2 ^ 8 * (2 ^ 8 * (2 ^ 8 * (2 ^ 8 * (2 ^ 8 * 0 + (c7)) + (c6)) + (c5)) + (c4)) + (c3)) + (c2)) + (c1)) := by omega
  have hD2 : D = (2 ^ 8 * (2 ^ 8 * (2 ^ 8 * (2 ^ 8 * (2 ^ 8 * (2 ^ 8 * (2 ^ 8 * (2 ^ 8 * 0 + (c7)) + (c6 + c7)) + (c5 + c6)) + (c4 + c5)) + (c3 + c4)) + (c2 + c3)) + (c1 + c2)) + (c0 + c1)) := by rw [hD, hC3, hC2]; clear hD hC3 hC2 hE hG; omega
  clear hD hC3 hC2
  have hD3 : D / 2 ^ 16 = (2 ^ 8 * (2 ^ 8 * (2 ^ 8 * (2 ^ 8 * (2 ^ 8 * (2 ^ 8 * 0 + (c7)) + (c6 + c7)) + (c5 + c6)) + (c4 + c5)) + (c3 + c4)) + (c2 + c3)) := by clear hE hG; omega
  have hE2 : E = (2 ^ 8 * (2 ^ 8 * (2 ^ 8 * (2 ^ 8 * (2 ^ 8 * (2 ^ 8 * (2 ^ 8 * (2 ^ 8 * 0 + (c7)) + (c6 + c7)) + (c5 + c6 + c7)) + (c4 + c5 + c6 + c7)) + (c3 + c4 + c5 + c6)) + (c2 + c3 + c4 + c5)) + (c1 + c2 + c3 + c4)) + (c0 + c1 + c2 + c3)) := by rw [hE, hD3, hD2]; clear hE hD3 hD2 hG; omega
  clear hE hD3 hD2
  have hE3 : E / 2 ^ 32 = (2 ^ 8 * (2 ^ 8 * (2 ^ 8 * (2 ^ 8 * 0 + (c7)) + (c6 + c7)) + (c5 + c6 + c7)) + (c4 + c5 + c6 + c7)) := by clear hG; omega
  rw [show (127 : Nat) = 2 ^ 7 - 1 from rfl, Nat.and_two_pow_sub_one_eq_mod, hG, hE3, hE2]
  clear hG hE3 hE2
  omega
def popc (x : Int64) : Nat := fb_ct (fun t => lb x t) 64
theorem lb_lN {X : Nat} (t : Nat) (ht : t < 64) : lb (lN X) t = X.testBit t := by
  show (BitVec.ofNat 64 X).getLsbD t = _
  rw [BitVec.getLsbD_ofNat]
  simp [ht]
end
section
set_option maxHeartbeats 400000 in
set_option maxRecDepth 100000 in
theorem kJ13_bitCount_95d88 (l : Launch) (E : EV) (u : SS) (x : Int64) : CT l yJ13_bitCount_95d88 cJ13_bitCount_95d88 2 (some .int) (Rm 0 0) [.long (x)] E u (Q_i E (fun r _ => r = nI (popc x)) (fun (_ : Unit) => u)) := by
  refine mstartF RJ13 (by decide +kernel) rfl (Nat.le_of_ble_eq_true rfl) ?_
  intro p e s m args below meth co ls Q hQ F hI hl
  have hx := F.1
  have hy := F.2.1
  have hl : lv_has ls 2 [(0, .long (x))] := hl
  obtain ⟨X, hX, ex⟩ := wb_of x
  subst ex
  have hl : lv_has ls 2 [(0, .long (lN X))] := hl
  refine lv_lload_n hx hy dJ13_bitCount_95d88_0 rfl (lv_at hl 0 rfl) ?_
  refine lv_lload_n hx hy dJ13_bitCount_95d88_1 rfl (lv_at hl 0 rfl) ?_
  refine lv_iconst (v := nI 1) hx hy dJ13_bitCount_95d88_2 (by decide) ?_
  refine lv_lushr (v := (Int64.toUInt64 (lN X) >>> ((Int32.toInt64 (nI 1)).toUInt64 &&& Int64.toUInt64 63)).toInt64) hx hy dJ13_bitCount_95d88_3 rfl ?_
  refine tL (wb_shr (n := X) (k := 1) (by omega) (by decide)) ?_
  refine zcl F K_J13_314 dJ13_bitCount_95d88_4 ?_
  refine tL (show _ = lN 6148914691236517205 from rfl) ?_
  refine lv_land hx hy dJ13_bitCount_95d88_7 ?_
  refine tL (lN_and (X / 2 ^ 1) (6148914691236517205)) ?_
  refine lv_lsub hx hy dJ13_bitCount_95d88_8 ?_
  refine tL (lN_sub (a := X) (b := (X / 2 ^ 1) &&& 6148914691236517205) (Nat.le_trans Nat.and_le_left (Nat.div_le_self _ _))) ?_
  obtain ⟨A1, eA1⟩ : ∃ z9 : Nat, z9 = X - ((X / 2 ^ 1) &&& 6148914691236517205) := ⟨_, rfl⟩
  refine tL (congrArg lN eA1.symm) ?_
  have bA1 : A1 < 2 ^ 64 := by rw [eA1]; exact Nat.lt_of_le_of_lt (Nat.sub_le _ _) hX
  refine lv_lstore_n (lv' := [(0, .long (lN A1))]) hx hy dJ13_bitCount_95d88_9 rfl hl (by decide) rfl (fun ls hl => ?_)
  refine lv_lload_n hx hy dJ13_bitCount_95d88_10 rfl (lv_at hl 0 rfl) ?_
  refine zcl F K_J13_316 dJ13_bitCount_95d88_11 ?_
  refine tL (show _ = lN 3689348814741910323 from rfl) ?_
  refine lv_land hx hy dJ13_bitCount_95d88_14 ?_
  refine tL (lN_and (A1) (3689348814741910323)) ?_
  refine lv_lload_n hx hy dJ13_bitCount_95d88_15 rfl (lv_at hl 0 rfl) ?_
  refine lv_iconst (v := nI 2) hx hy dJ13_bitCount_95d88_16 (by decide) ?_
  refine lv_lushr (v := (Int64.toUInt64 (lN A1) >>> ((Int32.toInt64 (nI 2)).toUInt64 &&& Int64.toUInt64 63)).toInt64) hx hy dJ13_bitCount_95d88_17 rfl ?_
  refine tL (wb_shr (n := A1) (k := 2) (by omega) (by decide)) ?_
  refine zcl F K_J13_316 dJ13_bitCount_95d88_18 ?_
  refine tL (show _ = lN 3689348814741910323 from rfl) ?_
  refine lv_land hx hy dJ13_bitCount_95d88_21 ?_
  refine tL (lN_and (A1 / 2 ^ 2) (3689348814741910323)) ?_
  refine lv_ladd hx hy dJ13_bitCount_95d88_22 ?_
  refine tL (lN_add (A1 &&& 3689348814741910323) ((A1 / 2 ^ 2) &&& 3689348814741910323)) ?_
  obtain ⟨A2, eA2⟩ : ∃ z9 : Nat, z9 = (A1 &&& 3689348814741910323) + ((A1 / 2 ^ 2) &&& 3689348814741910323) := ⟨_, rfl⟩
  refine tL (congrArg lN eA2.symm) ?_
  have bA2 : A2 < 2 ^ 64 := by rw [eA2]; exact Nat.lt_of_le_of_lt (Nat.add_le_add (Nat.and_le_right (m := 3689348814741910323)) (Nat.and_le_right (m := 3689348814741910323))) (by decide)
  refine lv_lstore_n (lv' := [(0, .long (lN A2))]) hx hy dJ13_bitCount_95d88_23 rfl hl (by decide) rfl (fun ls hl => ?_)
  refine lv_lload_n hx hy dJ13_bitCount_95d88_24 rfl (lv_at hl 0 rfl) ?_
  refine lv_lload_n hx hy dJ13_bitCount_95d88_25 rfl (lv_at hl 0 rfl) ?_
  refine lv_iconst (v := nI 4) hx hy dJ13_bitCount_95d88_26 (by decide) ?_
  refine lv_lushr (v := (Int64.toUInt64 (lN A2) >>> ((Int32.toInt64 (nI 4)).toUInt64 &&& Int64.toUInt64 63)).toInt64) hx hy dJ13_bitCount_95d88_27 rfl ?_
  refine tL (wb_shr (n := A2) (k := 4) (by omega) (by decide)) ?_
  refine lv_ladd hx hy dJ13_bitCount_95d88_28 ?_
  refine tL (lN_add (A2) (A2 / 2 ^ 4)) ?_
  refine zcl F K_J13_318 dJ13_bitCount_95d88_29 ?_
  refine tL (show _ = lN 1085102592571150095 from rfl) ?_
  refine lv_land hx hy dJ13_bitCount_95d88_32 ?_
  refine tL (lN_and (A2 + A2 / 2 ^ 4) (1085102592571150095)) ?_
  obtain ⟨A3, eA3⟩ : ∃ z9 : Nat, z9 = (A2 + A2 / 2 ^ 4) &&& 1085102592571150095 := ⟨_, rfl⟩
  refine tL (congrArg lN eA3.symm) ?_
  have bA3 : A3 ≤ 1085102592571150095 := by rw [eA3]; exact Nat.and_le_right
  refine lv_lstore_n (lv' := [(0, .long (lN A3))]) hx hy dJ13_bitCount_95d88_33 rfl hl (by decide) rfl (fun ls hl => ?_)
  refine lv_lload_n hx hy dJ13_bitCount_95d88_34 rfl (lv_at hl 0 rfl) ?_
  refine lv_lload_n hx hy dJ13_bitCount_95d88_35 rfl (lv_at hl 0 rfl) ?_
  refine lv_bipush (v := nI 8) hx hy dJ13_bitCount_95d88_36 (by decide) ?_
  refine lv_lushr (v := (Int64.toUInt64 (lN A3) >>> ((Int32.toInt64 (nI 8)).toUInt64 &&& Int64.toUInt64 63)).toInt64) hx hy dJ13_bitCount_95d88_38 rfl ?_
  refine tL (wb_shr (n := A3) (k := 8) (by omega) (by decide)) ?_
  refine lv_ladd hx hy dJ13_bitCount_95d88_39 ?_
  refine tL (lN_add (A3) (A3 / 2 ^ 8)) ?_
  obtain ⟨A4, eA4⟩ : ∃ z9 : Nat, z9 = A3 + A3 / 2 ^ 8 := ⟨_, rfl⟩
  refine tL (congrArg lN eA4.symm) ?_
  refine lv_lstore_n (lv' := [(0, .long (lN A4))]) hx hy dJ13_bitCount_95d88_40 rfl hl (by decide) rfl (fun ls hl => ?_)
  refine lv_lload_n hx hy dJ13_bitCount_95d88_41 rfl (lv_at hl 0 rfl) ?_
  refine lv_lload_n hx hy dJ13_bitCount_95d88_42 rfl (lv_at hl 0 rfl) ?_
  refine lv_bipush (v := nI 16) hx hy dJ13_bitCount_95d88_43 (by decide) ?_
  refine lv_lushr (v := (Int64.toUInt64 (lN A4) >>> ((Int32.toInt64 (nI 16)).toUInt64 &&& Int64.toUInt64 63)).toInt64) hx hy dJ13_bitCount_95d88_45 rfl ?_
  refine tL (wb_shr (n := A4) (k := 16) (by omega) (by decide)) ?_
  refine lv_ladd hx hy dJ13_bitCount_95d88_46 ?_
  refine tL (lN_add (A4) (A4 / 2 ^ 16)) ?_
  obtain ⟨A5, eA5⟩ : ∃ z9 : Nat, z9 = A4 + A4 / 2 ^ 16 := ⟨_, rfl⟩
  refine tL (congrArg lN eA5.symm) ?_
  refine lv_lstore_n (lv' := [(0, .long (lN A5))]) hx hy dJ13_bitCount_95d88_47 rfl hl (by decide) rfl (fun ls hl => ?_)
  refine lv_lload_n hx hy dJ13_bitCount_95d88_48 rfl (lv_at hl 0 rfl) ?_
  refine lv_lload_n hx hy dJ13_bitCount_95d88_49 rfl (lv_at hl 0 rfl) ?_
  refine lv_bipush (v := nI 32) hx hy dJ13_bitCount_95d88_50 (by decide) ?_
  refine lv_lushr (v := (Int64.toUInt64 (lN A5) >>> ((Int32.toInt64 (nI 32)).toUInt64 &&& Int64.toUInt64 63)).toInt64) hx hy dJ13_bitCount_95d88_52 rfl ?_
  refine tL (wb_shr (n := A5) (k := 32) (by omega) (by decide)) ?_
  refine lv_ladd hx hy dJ13_bitCount_95d88_53 ?_
  refine tL (lN_add (A5) (A5 / 2 ^ 32)) ?_
  obtain ⟨A6, eA6⟩ : ∃ z9 : Nat, z9 = A5 + A5 / 2 ^ 32 := ⟨_, rfl⟩
  refine tL (congrArg lN eA6.symm) ?_
  refine lv_lstore_n (lv' := [(0, .long (lN A6))]) hx hy dJ13_bitCount_95d88_54 rfl hl (by decide) rfl (fun ls hl => ?_)
  refine lv_lload_n hx hy dJ13_bitCount_95d88_55 rfl (lv_at hl 0 rfl) ?_
  refine lv_l2i (v := nI A6) hx hy dJ13_bitCount_95d88_56 (lN_i (A6)) ?_
  refine lv_bipush (v := nI 127) hx hy dJ13_bitCount_95d88_57 (by decide) ?_
  refine lv_iand hx hy dJ13_bitCount_95d88_59 ?_
  refine tI (nI_and (A6) (127)) ?_
  exact rI hQ F (v := ()) hI dJ13_bitCount_95d88_60 (by rw [bc8 (X := X) hX (B := A2) (C := A3) (D := A4) (E := A5) (G := A6) (by rw [eA2, a2, eA1, Nat.pow_zero, Nat.div_one]; rfl) (by rw [eA3]; rfl) (by rw [eA4]) (by rw [eA5]) (by rw [eA6])]; exact congrArg nI (fb_ct_cong fun t ht => (lb_lN t ht).symm))
set_option maxHeartbeats 400000 in
set_option maxRecDepth 100000 in
theorem kJ6_bitCount_0f7a4 (l : Launch) (E : EV) (u : SS) (X : Nat) (hX : X < 2 ^ 32) : CT l yJ6_bitCount_0f7a4 cJ6_bitCount_0f7a4 1 (some .int) (Rm 0 0) [.int (nI X)] E u (Q_i E (fun r _ => r = nI (fb_ct (fun t => X.testBit t) 32)) (fun (_ : Unit) => u)) := by
  refine mstartF RJ6 (by decide +kernel) rfl (Nat.le_of_ble_eq_true rfl) ?_
  intro p e s m args below meth co ls Q hQ F hI hl
  have hx := F.1
  have hy := F.2.1
  have hl : lv_has ls 1 [(0, .int (nI X))] := hl
  refine lv_iload_n hx hy dJ6_bitCount_0f7a4_0 rfl (lv_at hl 0 rfl) ?_
  refine lv_iload_n hx hy dJ6_bitCount_0f7a4_1 rfl (lv_at hl 0 rfl) ?_
  refine lv_iconst (v := nI 1) hx hy dJ6_bitCount_0f7a4_2 (by decide) ?_
  refine lv_iushr (v := nI (X / 2 ^ 1)) hx hy dJ6_bitCount_0f7a4_3 (pk_ushrN (n := X) (by omega) (nI 1) 1 (by decide)) ?_
  refine lv_ldcw hx hy F.2.2.2.1 (F.2.2.2.2.1 _ K_J6_265) dJ6_bitCount_0f7a4_4 ?_
  refine tI (show _ = nI 1431655765 from rfl) ?_
  refine lv_iand hx hy dJ6_bitCount_0f7a4_7 ?_
  refine tI (nI_and (X / 2 ^ 1) (1431655765)) ?_
  refine lv_isub hx hy dJ6_bitCount_0f7a4_8 ?_
  refine tI (pk_sub (a := X) (b := (X / 2 ^ 1) &&& 1431655765) (Nat.le_trans Nat.and_le_left (Nat.div_le_self _ _))) ?_
  obtain ⟨A1, eA1⟩ : ∃ z9 : Nat, z9 = X - ((X / 2 ^ 1) &&& 1431655765) := ⟨_, rfl⟩
  refine tI (congrArg nI eA1.symm) ?_
  have bA1 : A1 < 2 ^ 32 := by rw [eA1]; exact Nat.lt_of_le_of_lt (Nat.sub_le _ _) hX
  refine lv_istore_n (lv' := [(0, .int (nI A1))]) hx hy dJ6_bitCount_0f7a4_9 rfl hl (by decide) rfl (fun ls hl => ?_)
  refine lv_iload_n hx hy dJ6_bitCount_0f7a4_10 rfl (lv_at hl 0 rfl) ?_
  refine lv_ldcw hx hy F.2.2.2.1 (F.2.2.2.2.1 _ K_J6_266) dJ6_bitCount_0f7a4_11 ?_
  refine tI (show _ = nI 858993459 from rfl) ?_
  refine lv_iand hx hy dJ6_bitCount_0f7a4_14 ?_
  refine tI (nI_and (A1) (858993459)) ?_
  refine lv_iload_n hx hy dJ6_bitCount_0f7a4_15 rfl (lv_at hl 0 rfl) ?_
  refine lv_iconst (v := nI 2) hx hy dJ6_bitCount_0f7a4_16 (by decide) ?_
  refine lv_iushr (v := nI (A1 / 2 ^ 2)) hx hy dJ6_bitCount_0f7a4_17 (pk_ushrN (n := A1) (by omega) (nI 2) 2 (by decide)) ?_
  refine lv_ldcw hx hy F.2.2.2.1 (F.2.2.2.2.1 _ K_J6_266) dJ6_bitCount_0f7a4_18 ?_
  refine tI (show _ = nI 858993459 from rfl) ?_
  refine lv_iand hx hy dJ6_bitCount_0f7a4_21 ?_
  refine tI (nI_and (A1 / 2 ^ 2) (858993459)) ?_
  refine lv_iadd hx hy dJ6_bitCount_0f7a4_22 ?_
  refine tI (nI_add (A1 &&& 858993459) ((A1 / 2 ^ 2) &&& 858993459)) ?_
  obtain ⟨A2, eA2⟩ : ∃ z9 : Nat, z9 = (A1 &&& 858993459) + ((A1 / 2 ^ 2) &&& 858993459) := ⟨_, rfl⟩
  refine tI (congrArg nI eA2.symm) ?_
  have bA2 : A2 < 2 ^ 32 := by rw [eA2]; exact Nat.lt_of_le_of_lt (Nat.add_le_add (Nat.and_le_right (m := 858993459)) (Nat.and_le_right (m := 858993459))) (by decide)
  refine lv_istore_n (lv' := [(0, .int (nI A2))]) hx hy dJ6_bitCount_0f7a4_23 rfl hl (by decide) rfl (fun ls hl => ?_)
  refine lv_iload_n hx hy dJ6_bitCount_0f7a4_24 rfl (lv_at hl 0 rfl) ?_
  refine lv_iload_n hx hy dJ6_bitCount_0f7a4_25 rfl (lv_at hl 0 rfl) ?_
  refine lv_iconst (v := nI 4) hx hy dJ6_bitCount_0f7a4_26 (by decide) ?_
  refine lv_iushr (v := nI (A2 / 2 ^ 4)) hx hy dJ6_bitCount_0f7a4_27 (pk_ushrN (n := A2) (by omega) (nI 4) 4 (by decide)) ?_
  refine lv_iadd hx hy dJ6_bitCount_0f7a4_28 ?_
  refine tI (nI_add (A2) (A2 / 2 ^ 4)) ?_
  refine lv_ldcw hx hy F.2.2.2.1 (F.2.2.2.2.1 _ K_J6_267) dJ6_bitCount_0f7a4_29 ?_
  refine tI (show _ = nI 252645135 from rfl) ?_
  refine lv_iand hx hy dJ6_bitCount_0f7a4_32 ?_
  refine tI (nI_and (A2 + A2 / 2 ^ 4) (252645135)) ?_
  obtain ⟨A3, eA3⟩ : ∃ z9 : Nat, z9 = (A2 + A2 / 2 ^ 4) &&& 252645135 := ⟨_, rfl⟩
  refine tI (congrArg nI eA3.symm) ?_
  have bA3 : A3 ≤ 252645135 := by rw [eA3]; exact Nat.and_le_right
  refine lv_istore_n (lv' := [(0, .int (nI A3))]) hx hy dJ6_bitCount_0f7a4_33 rfl hl (by decide) rfl (fun ls hl => ?_)
  refine lv_iload_n hx hy dJ6_bitCount_0f7a4_34 rfl (lv_at hl 0 rfl) ?_
  refine lv_iload_n hx hy dJ6_bitCount_0f7a4_35 rfl (lv_at hl 0 rfl) ?_
  refine lv_bipush (v := nI 8) hx hy dJ6_bitCount_0f7a4_36 (by decide) ?_
  refine lv_iushr (v := nI (A3 / 2 ^ 8)) hx hy dJ6_bitCount_0f7a4_38 (pk_ushrN (n := A3) (by omega) (nI 8) 8 (by decide)) ?_
  refine lv_iadd hx hy dJ6_bitCount_0f7a4_39 ?_
  refine tI (nI_add (A3) (A3 / 2 ^ 8)) ?_
  obtain ⟨A4, eA4⟩ : ∃ z9 : Nat, z9 = A3 + A3 / 2 ^ 8 := ⟨_, rfl⟩
  refine tI (congrArg nI eA4.symm) ?_
  refine lv_istore_n (lv' := [(0, .int (nI A4))]) hx hy dJ6_bitCount_0f7a4_40 rfl hl (by decide) rfl (fun ls hl => ?_)
  refine lv_iload_n hx hy dJ6_bitCount_0f7a4_41 rfl (lv_at hl 0 rfl) ?_
  refine lv_iload_n hx hy dJ6_bitCount_0f7a4_42 rfl (lv_at hl 0 rfl) ?_
  refine lv_bipush (v := nI 16) hx hy dJ6_bitCount_0f7a4_43 (by decide) ?_
  refine lv_iushr (v := nI (A4 / 2 ^ 16)) hx hy dJ6_bitCount_0f7a4_45 (pk_ushrN (n := A4) (by omega) (nI 16) 16 (by decide)) ?_
  refine lv_iadd hx hy dJ6_bitCount_0f7a4_46 ?_
  refine tI (nI_add (A4) (A4 / 2 ^ 16)) ?_
  obtain ⟨A5, eA5⟩ : ∃ z9 : Nat, z9 = A4 + A4 / 2 ^ 16 := ⟨_, rfl⟩
  refine tI (congrArg nI eA5.symm) ?_
  refine lv_istore_n (lv' := [(0, .int (nI A5))]) hx hy dJ6_bitCount_0f7a4_47 rfl hl (by decide) rfl (fun ls hl => ?_)
  refine lv_iload_n hx hy dJ6_bitCount_0f7a4_48 rfl (lv_at hl 0 rfl) ?_
  refine lv_bipush (v := nI 63) hx hy dJ6_bitCount_0f7a4_49 (by decide) ?_
  refine lv_iand hx hy dJ6_bitCount_0f7a4_51 ?_
  refine tI (nI_and (A5) (63)) ?_
  exact rI hQ F (v := ()) hI dJ6_bitCount_0f7a4_52 (by rw [bc4 (X := X) (by omega) (B := A2) (C := A3) (D := A4) (E := A5) (by rw [eA2, a2, eA1, Nat.pow_zero, Nat.div_one]; rfl) (by rw [eA3]; rfl) (by rw [eA4]) (by rw [eA5])])
end
section
def bN (b : Bool) : Nat := if b then 1 else 0
/-- bit of a row at a tick -/
def gb (g : GF) (i t : Nat) : Bool := lb (g i (t / 64)) (t % 64)
theorem rowG_gb {g : GF} {f : Nat → Ln} {j w t : Nat} (h : RowG g f j w) (ht : t < 64 * w) : gb g j t = bt f j t := by
  unfold gb
  rw [h (t / 64) (by omega) (t % 64) (by omega), Nat.div_add_mod]
theorem bitAt_eq (x : Int64) {k : Nat} (hk : k < 64) : Int64.toInt32 ((Int64.toUInt64 x >>> ((Int32.toInt64 (nI k)).toUInt64 &&& Int64.toUInt64 63)).toInt64) &&& nI 1 = nI (bN (lb x k)) := by
  have h := lb_ushr x (t := 0) hk
  generalize (Int64.toUInt64 x >>> ((Int32.toInt64 (nI k)).toUInt64 &&& Int64.toUInt64 63)).toInt64 = y at h ⊢
  rw [Nat.add_zero] at h
  rw [← h]
  apply Int32.toBitVec_inj.mp
  apply BitVec.eq_of_getLsbD_eq
  intro i hi
  have e1 : (Int64.toInt32 y &&& nI 1).toBitVec.getLsbD i = (decide (i < 32) && y.toBitVec.getLsbD i && (BitVec.ofNat 32 1).getLsbD i) := by
    show ((y.toBitVec.signExtend 32) &&& BitVec.ofNat 32 1).getLsbD i = _
    rw [BitVec.getLsbD_and, BitVec.getLsbD_signExtend]
    simp [hi, show i < 64 from by omega]
  rw [e1, decide_eq_true hi, Bool.true_and]
  have e2 : (BitVec.ofNat 32 1).getLsbD i = decide (i = 0) := by
    have : ∀ i, i < 32 → (BitVec.ofNat 32 1).getLsbD i = decide (i = 0) := by decide
    exact this i hi
  rw [e2]
  by_cases h0 : i = 0
  · subst h0
    show (lb y 0 && decide (0 = 0)) = (BitVec.ofNat 32 (bN (lb y 0))).getLsbD 0
    cases lb y 0 <;> decide
  · rw [decide_eq_false h0, Bool.and_false]
    show false = (BitVec.ofNat 32 (bN (lb y 0))).getLsbD i
    cases lb y 0
    · show false = (BitVec.ofNat 32 0).getLsbD i
      simp
    · show false = (BitVec.ofNat 32 1).getLsbD i
      rw [e2, decide_eq_false h0]
/-- a mask of the lowest k bits -/
theorem lb_rest {k t : Nat} (hk : k < 64) (ht : t < 64) : lb (lN 1 <<< (Int32.toInt64 (nI k) &&& 63) - lN 1) t = decide (t < k) := by
  have h : ∀ k, k < 64 → lN 1 <<< (Int32.toInt64 (nI k) &&& 63) - lN 1 = lN (2 ^ k - 1) := by decide +kernel
  rw [h k hk, lb_lN t ht, Nat.testBit_two_pow_sub_one]
theorem popc_rest {x y : Int64} {k : Nat} (hk : k < 64) : popc ((x &&& y) &&& (lN 1 <<< (Int32.toInt64 (nI k) &&& 63) - lN 1)) = fb_ct (fun t => lb x t && lb y t) k := by
  unfold popc
  have e : (64 : Nat) = k + (64 - k) := by omega
  have h1 : fb_ct (fun t => lb ((x &&& y) &&& (lN 1 <<< (Int32.toInt64 (nI k) &&& 63) - lN 1)) t) 64 = fb_ct (fun t => (lb x t && lb y t) && decide (t < k)) 64 := fb_ct_cong fun t ht => by rw [lb_and, lb_and, lb_rest hk ht]
  rw [h1, e, fb_ct_split]
  have h2 : fb_ct (fun t => (lb x (k + t) && lb y (k + t)) && decide (k + t < k)) (64 - k) = 0 := fb_ct_zero.mpr fun t _ => by rw [decide_eq_false (by omega), Bool.and_false]
  rw [h2, Nat.add_zero]
  exact fb_ct_cong fun t ht => by rw [decide_eq_true ht, Bool.and_true]
theorem popc_and (x y : Int64) : popc (x &&& y) = fb_ct (fun t => lb x t && lb y t) 64 := fb_ct_cong fun t _ => lb_and x y t
theorem ones_step (g : GF) (a b w : Nat) : fb_ct (fun t => gb g a t && gb g b t) (64 * (w + 1)) = fb_ct (fun t => gb g a t && gb g b t) (64 * w) + popc (g a w &&& g b w) := by
  rw [show 64 * (w + 1) = 64 * w + 64 from rfl, fb_ct_split, popc_and]
  congr 1
  refine fb_ct_cong fun t ht => ?_
  unfold gb
  rw [show (64 * w + t) / 64 = w from by omega, show (64 * w + t) % 64 = t from by omega]
theorem ones_end (g : GF) (a b tk : Nat) : fb_ct (fun t => gb g a t && gb g b t) tk = fb_ct (fun t => gb g a t && gb g b t) (64 * (tk / 64)) + popc ((g a (tk / 64) &&& g b (tk / 64)) &&& (lN 1 <<< (Int32.toInt64 (nI (tk % 64)) &&& 63) - lN 1)) := by
  rw [popc_rest (Nat.mod_lt _ (by decide))]
  have e : tk = 64 * (tk / 64) + tk % 64 := (Nat.div_add_mod _ _).symm
  have h := fb_ct_split (fun t => gb g a t && gb g b t) (64 * (tk / 64)) (tk % 64)
  rw [← e] at h
  rw [h]
  congr 1
  refine fb_ct_cong fun t ht => ?_
  have ht2 : t < 64 := Nat.lt_trans ht (Nat.mod_lt _ (by decide))
  unfold gb
  rw [show (64 * (tk / 64) + t) / 64 = tk / 64 from by omega, show (64 * (tk / 64) + t) % 64 = t from by omega]
end
section
set_option maxHeartbeats 400000 in
set_option maxRecDepth 100000 in
theorem kX4_bitAt (l : Launch) (E : EV) (u : SS) (i t : Nat) (hi : i < 16) (ht : t < 1024) : CT l yX4_bitAt cX4_bitAt 3 (some .int) (Rm 1 23) [.ref (eA E 9), .int (nI i), .int (nI t)] E u (Q_i E (fun r _ => r = nI (bN (gb u.2 i t))) (fun (_ : Unit) => u)) := by
  refine mstart RX4 (by decide +kernel) rfl (Nat.le_of_ble_eq_true rfl) ?_
  intro p e s m args below meth co ls Q hQ F hI hl
  have hx := F.1
  have hy := F.2.1
  have hl : lv_has ls 3 [(0, .ref (eA E 9)), (1, .int (nI i)), (2, .int (nI t))] := hl
  refine lv_aload_n hx hy dX4_bitAt_0 rfl (lv_at hl 0 rfl) ?_
  refine lv_iload_n hx hy dX4_bitAt_1 rfl (lv_at hl 1 rfl) ?_
  refine lv_iload_n hx hy dX4_bitAt_2 rfl (lv_at hl 2 rfl) ?_
  refine lv_bipush (v := nI 64) hx hy dX4_bitAt_3 (by decide) ?_
  refine lv_idiv hx hy dX4_bitAt_5 (fun q => absurd ((nI_eq (by omega) (by omega)).mp (show nI (64) = nI 0 from q)) (by omega)) ?_
  refine tI (pk_div (a := t) (d := 64) (by omega) (by omega) (by omega)) ?_
  refine zL hI (xV F hI hl (kX4_wordAt l E (u) i (by omega) (nI (t / 64))) M_X4_45 (rX4 F hI) rfl ⟨Nat.le_of_ble_eq_true rfl, Nat.le_of_ble_eq_true rfl⟩ ⟨Nat.zero_le _, Nat.zero_le _⟩ rfl (Nat.le_of_ble_eq_true rfl) dX4_bitAt_6) (fun r2 v3 H locs hI hp1 => ?_)
  rw [wdE_in (by omega) (by omega)] at hp1
  subst hp1
  refine lv_iload_n hx hy dX4_bitAt_9 rfl (lv_at hl 2 rfl) ?_
  refine lv_bipush (v := nI 64) hx hy dX4_bitAt_10 (by decide) ?_
  refine lv_irem hx hy dX4_bitAt_12 (fun q => absurd ((nI_eq (by omega) (by omega)).mp (show nI (64) = nI 0 from q)) (by omega)) ?_
  refine tI (pk_rem (a := t) (d := 64) (by omega) (by omega) (by omega)) ?_
  refine lv_lushr (v := (Int64.toUInt64 (u.2 i (t / 64)) >>> ((Int32.toInt64 (nI (t % 64))).toUInt64 &&& Int64.toUInt64 63)).toInt64) hx hy dX4_bitAt_13 rfl ?_
  refine lv_l2i (v := Int64.toInt32 ((Int64.toUInt64 (u.2 i (t / 64)) >>> ((Int32.toInt64 (nI (t % 64))).toUInt64 &&& Int64.toUInt64 63)).toInt64)) hx hy dX4_bitAt_14 rfl ?_
  refine lv_iconst (v := nI 1) hx hy dX4_bitAt_15 (by decide) ?_
  refine lv_iand hx hy dX4_bitAt_16 ?_
  exact rI hQ F (v := ()) hI dX4_bitAt_17 (by rw [bitAt_eq _ (Nat.mod_lt _ (by decide))]; rfl)
set_option maxHeartbeats 400000 in
set_option maxRecDepth 100000 in
theorem kX4_onesInBoth (l : Launch) (E : EV) (u : SS) (a b tk : Nat) (ha : a < 16) (hb : b < 16) (htk : tk ≤ 1000) : CT l yX4_onesInBoth cX4_onesInBoth 8 (some .int) (Rm 1 23) [.ref (eA E 9), .int (nI a), .int (nI b), .int (nI tk)] E u (Q_i E (fun r _ => r = nI (fb_ct (fun t => gb u.2 a t && gb u.2 b t) tk)) (fun (_ : Unit) => u)) := by
  refine mstart RX4 (by decide +kernel) rfl (Nat.le_of_ble_eq_true rfl) ?_
  intro p e s m args below meth co ls Q hQ F hI hl
  have hx := F.1
  have hy := F.2.1
  have hl : lv_has ls 8 [(0, .ref (eA E 9)), (1, .int (nI a)), (2, .int (nI b)), (3, .int (nI tk))] := hl
  refine lv_iconst (v := nI 0) hx hy dX4_onesInBoth_0 (by decide) ?_
  refine lv_istore (lv' := [(4, .int (nI 0)), (0, .ref (eA E 9)), (1, .int (nI a)), (2, .int (nI b)), (3, .int (nI tk))]) hx hy dX4_onesInBoth_1 hl (by decide) rfl (fun ls hl => ?_)
  refine lv_iload_n hx hy dX4_onesInBoth_3 rfl (lv_at hl 4 rfl) ?_
  refine lv_bipush (v := nI 64) hx hy dX4_onesInBoth_4 (by decide) ?_
  refine lv_idiv hx hy dX4_onesInBoth_6 (fun q => absurd ((nI_eq (by omega) (by omega)).mp (show nI (64) = nI 0 from q)) (by omega)) ?_
  refine tI (pk_div (a := tk) (d := 64) (by omega) (by omega) (by omega)) ?_
  refine lv_istore (lv' := [(5, .int (nI (tk / 64))), (4, .int (nI 0)), (0, .ref (eA E 9)), (1, .int (nI a)), (2, .int (nI b)), (3, .int (nI tk))]) hx hy dX4_onesInBoth_7 hl (by decide) rfl (fun ls hl => ?_)
  refine lv_iconst (v := nI 0) hx hy dX4_onesInBoth_9 (by decide) ?_
  refine lv_istore (lv' := [(6, .int (nI 0)), (5, .int (nI (tk / 64))), (4, .int (nI 0)), (0, .ref (eA E 9)), (1, .int (nI a)), (2, .int (nI b)), (3, .int (nI tk))]) hx hy dX4_onesInBoth_10 hl (by decide) rfl (fun ls hl => ?_)
  have lp1 : ∀ (fu : Nat) (w : Nat), (w ≤ tk / 64) → (tk / 64 - w < fu) →  ∀ (H : Heap) (locs : List Loc) (ls : Array Slot), Iv E s H locs (u) → lv_has ls 8 [(6, .int (nI w)), (4, .int (nI (fb_ct (fun t => gb u.2 a t && gb u.2 b t) (64 * w)))), (5, .int (nI (tk / 64))), (0, .ref (eA E 9)), (1, .int (nI a)), (2, .int (nI b)), (3, .int (nI tk))] → W p l e (Rm 1 23) s m args below meth co H locs 0 0 Q (F0 m 12 ls []) := by
    intro fu
    induction fu with
    | zero => intro w hi hf; exact absurd hf (Nat.not_lt_zero _)
    | succ fu ih =>
      intro w hi hf H locs ls hI hl
      have ih_12 := ih
      refine lv_iload hx hy dX4_onesInBoth_12 (lv_at hl 0 rfl) ?_
      refine lv_iload hx hy dX4_onesInBoth_14 (lv_at hl 2 rfl) ?_
      refine lv_icmp_ge (tgt := 48) hx hy dX4_onesInBoth_16 (by decide) (fun h2 => ?_) (fun h2 => ?_)
      · have h2 : tk / 64 ≤ w := (nI_leI (a := tk / 64) (b := w) (by omega) (by omega)).mp h2
        have e8 : w = tk / 64 := by omega
        rw [e8] at hl
        refine lv_lconst (v := lN 1) hx hy dX4_onesInBoth_48 (by decide) ?_
        refine lv_iload_n hx hy dX4_onesInBoth_49 rfl (lv_at hl 6 rfl) ?_
        refine lv_bipush (v := nI 64) hx hy dX4_onesInBoth_50 (by decide) ?_
        refine lv_irem hx hy dX4_onesInBoth_52 (fun q => absurd ((nI_eq (by omega) (by omega)).mp (show nI (64) = nI 0 from q)) (by omega)) ?_
        refine tI (pk_rem (a := tk) (d := 64) (by omega) (by omega) (by omega)) ?_
        refine lv_lshl (v := (lN 1) <<< (Int32.toInt64 (nI (tk % 64)) &&& 63)) hx hy dX4_onesInBoth_53 rfl ?_
        refine lv_lconst (v := lN 1) hx hy dX4_onesInBoth_54 (by decide) ?_
        refine lv_lsub hx hy dX4_onesInBoth_55 ?_
        refine lv_lstore (lv' := [(6, .long (((lN 1) <<< (Int32.toInt64 (nI (tk % 64)) &&& 63)) - (lN 1))), (4, .int (nI (fb_ct (fun t => gb u.2 a t && gb u.2 b t) (64 * (tk / 64))))), (5, .int (nI (tk / 64))), (0, .ref (eA E 9)), (1, .int (nI a)), (2, .int (nI b)), (3, .int (nI tk))]) hx hy dX4_onesInBoth_56 hl (by decide) rfl (fun ls hl => ?_)
        refine lv_iload hx hy dX4_onesInBoth_58 (lv_at hl 1 rfl) ?_
        refine lv_aload_n hx hy dX4_onesInBoth_60 rfl (lv_at hl 3 rfl) ?_
        refine lv_iload_n hx hy dX4_onesInBoth_61 rfl (lv_at hl 4 rfl) ?_
        refine lv_iload hx hy dX4_onesInBoth_62 (lv_at hl 2 rfl) ?_
        refine zL hI (xV F hI hl (kX4_wordAt l E (u) a (by omega) (nI (tk / 64))) M_X4_45 (rX4 F hI) rfl ⟨Nat.le_of_ble_eq_true rfl, Nat.le_of_ble_eq_true rfl⟩ ⟨Nat.zero_le _, Nat.zero_le _⟩ rfl (Nat.le_of_ble_eq_true rfl) dX4_onesInBoth_64) (fun r4 v5 H locs hI hp3 => ?_)
        rw [wdE_in (by omega) (by omega)] at hp3
        subst hp3
        refine lv_aload_n hx hy dX4_onesInBoth_67 rfl (lv_at hl 3 rfl) ?_
        refine lv_iload_n hx hy dX4_onesInBoth_68 rfl (lv_at hl 5 rfl) ?_
        refine lv_iload hx hy dX4_onesInBoth_69 (lv_at hl 2 rfl) ?_
        refine zL hI (xV F hI hl (kX4_wordAt l E (u) b (by omega) (nI (tk / 64))) M_X4_45 (rX4 F hI) rfl ⟨Nat.le_of_ble_eq_true rfl, Nat.le_of_ble_eq_true rfl⟩ ⟨Nat.zero_le _, Nat.zero_le _⟩ rfl (Nat.le_of_ble_eq_true rfl) dX4_onesInBoth_71) (fun r7 v8 H locs hI hp6 => ?_)
        rw [wdE_in (by omega) (by omega)] at hp6
        subst hp6
        refine lv_land hx hy dX4_onesInBoth_74 ?_
        refine lv_lload hx hy dX4_onesInBoth_75 (lv_at hl 0 rfl) ?_
        refine lv_land hx hy dX4_onesInBoth_77 ?_
        refine zI hI (xS F hI hl (kJ13_bitCount_95d88 l E (u) (((u.2 a (tk / 64)) &&& (u.2 b (tk / 64))) &&& (((lN 1) <<< (Int32.toInt64 (nI (tk % 64)) &&& 63)) - (lN 1)))) M_X4_55 rfl ⟨Nat.le_of_ble_eq_true rfl, Nat.le_of_ble_eq_true rfl⟩ ⟨Nat.zero_le _, Nat.zero_le _⟩ rfl (Nat.le_of_ble_eq_true rfl) dX4_onesInBoth_78) (fun r10 v11 H locs hI hp9 => ?_)
        subst hp9
        refine lv_iadd hx hy dX4_onesInBoth_81 ?_
        refine tI (nI_add (fb_ct (fun t => gb u.2 a t && gb u.2 b t) (64 * (tk / 64))) (popc (((u.2 a (tk / 64)) &&& (u.2 b (tk / 64))) &&& (((lN 1) <<< (Int32.toInt64 (nI (tk % 64)) &&& 63)) - (lN 1))))) ?_
        exact rI hQ F (v := ()) hI dX4_onesInBoth_82 (congrArg nI (ones_end u.2 a b tk).symm)
      · have h2 : w < tk / 64 := Nat.lt_of_not_le (fun q9 => h2 ((nI_leI (a := tk / 64) (b := w) (by omega) (by omega)).mpr q9))
        refine lv_iload hx hy dX4_onesInBoth_19 (lv_at hl 1 rfl) ?_
        refine lv_aload_n hx hy dX4_onesInBoth_21 rfl (lv_at hl 3 rfl) ?_
        refine lv_iload_n hx hy dX4_onesInBoth_22 rfl (lv_at hl 4 rfl) ?_
        refine lv_iload hx hy dX4_onesInBoth_23 (lv_at hl 0 rfl) ?_
        refine zL hI (xV F hI hl (kX4_wordAt l E (u) a (by omega) (nI w)) M_X4_45 (rX4 F hI) rfl ⟨Nat.le_of_ble_eq_true rfl, Nat.le_of_ble_eq_true rfl⟩ ⟨Nat.zero_le _, Nat.zero_le _⟩ rfl (Nat.le_of_ble_eq_true rfl) dX4_onesInBoth_25) (fun r13 v14 H locs hI hp12 => ?_)
        rw [wdE_in (by omega) (by omega)] at hp12
        subst hp12
        refine lv_aload_n hx hy dX4_onesInBoth_28 rfl (lv_at hl 3 rfl) ?_
        refine lv_iload_n hx hy dX4_onesInBoth_29 rfl (lv_at hl 5 rfl) ?_
        refine lv_iload hx hy dX4_onesInBoth_30 (lv_at hl 0 rfl) ?_
        refine zL hI (xV F hI hl (kX4_wordAt l E (u) b (by omega) (nI w)) M_X4_45 (rX4 F hI) rfl ⟨Nat.le_of_ble_eq_true rfl, Nat.le_of_ble_eq_true rfl⟩ ⟨Nat.zero_le _, Nat.zero_le _⟩ rfl (Nat.le_of_ble_eq_true rfl) dX4_onesInBoth_32) (fun r16 v17 H locs hI hp15 => ?_)
        rw [wdE_in (by omega) (by omega)] at hp15
        subst hp15
        refine lv_land hx hy dX4_onesInBoth_35 ?_
        refine zI hI (xS F hI hl (kJ13_bitCount_95d88 l E (u) ((u.2 a w) &&& (u.2 b w))) M_X4_55 rfl ⟨Nat.le_of_ble_eq_true rfl, Nat.le_of_ble_eq_true rfl⟩ ⟨Nat.zero_le _, Nat.zero_le _⟩ rfl (Nat.le_of_ble_eq_true rfl) dX4_onesInBoth_36) (fun r19 v20 H locs hI hp18 => ?_)
        subst hp18
        refine lv_iadd hx hy dX4_onesInBoth_39 ?_
        refine tI (nI_add (fb_ct (fun t => gb u.2 a t && gb u.2 b t) (64 * w)) (popc ((u.2 a w) &&& (u.2 b w)))) ?_
        refine lv_istore (lv' := [(4, .int (nI (fb_ct (fun t => gb u.2 a t && gb u.2 b t) (64 * w) + (popc ((u.2 a w) &&& (u.2 b w)))))), (6, .int (nI w)), (5, .int (nI (tk / 64))), (0, .ref (eA E 9)), (1, .int (nI a)), (2, .int (nI b)), (3, .int (nI tk))]) hx hy dX4_onesInBoth_40 hl (by decide) rfl (fun ls hl => ?_)
        rw [← ones_step u.2 a b w] at hl
        refine lv_iinc (v := nI (w + 1)) (lv' := [(6, .int (nI (w + 1))), (4, .int (nI (fb_ct (fun t => gb u.2 a t && gb u.2 b t) (64 * (w + 1))))), (5, .int (nI (tk / 64))), (0, .ref (eA E 9)), (1, .int (nI a)), (2, .int (nI b)), (3, .int (nI tk))]) hx hy dX4_onesInBoth_42 hl (k := 1) rfl (nI_add (w) 1) (by decide) rfl (fun ls hl => ?_)
        refine lv_goto (tgt := 12) hx hy dX4_onesInBoth_45 (by decide) ?_
        exact ih_12 (w + 1) (by omega) (by omega) _ _ _ hI (lv_sub hl [0, 1, 2, 3, 4, 5, 6] rfl)
  exact lp1 (tk / 64 + 1) 0 (Nat.zero_le _) (by omega) _ _ _ hI (lv_sub hl [0, 2, 1, 3, 4, 5, 6] rfl)
set_option maxHeartbeats 400000 in
set_option maxRecDepth 100000 in
theorem kX4_onesIn (l : Launch) (E : EV) (u : SS) (a tk : Nat) (ha : a < 16) (htk : tk ≤ 1000) : CT l yX4_onesIn cX4_onesIn 3 (some .int) (Rm 2 50) [.ref (eA E 9), .int (nI a), .int (nI tk)] E u (Q_i E (fun r _ => r = nI (fb_ct (fun t => gb u.2 a t) tk)) (fun (_ : Unit) => u)) := by
  refine mstart RX4 (by decide +kernel) rfl (Nat.le_of_ble_eq_true rfl) ?_
  intro p e s m args below meth co ls Q hQ F hI hl
  have hx := F.1
  have hy := F.2.1
  have hl : lv_has ls 3 [(0, .ref (eA E 9)), (1, .int (nI a)), (2, .int (nI tk))] := hl
  refine lv_aload_n hx hy dX4_onesIn_0 rfl (lv_at hl 0 rfl) ?_
  refine lv_iload_n hx hy dX4_onesIn_1 rfl (lv_at hl 1 rfl) ?_
  refine lv_iload_n hx hy dX4_onesIn_2 rfl (lv_at hl 1 rfl) ?_
  refine lv_iload_n hx hy dX4_onesIn_3 rfl (lv_at hl 2 rfl) ?_
  refine zI hI (xV F hI hl (kX4_onesInBoth l E (u) a a tk (by omega) (by omega) (by omega)) M_X4_51 (rX4 F hI) rfl ⟨Nat.le_of_ble_eq_true rfl, Nat.le_of_ble_eq_true rfl⟩ ⟨Nat.zero_le _, Nat.zero_le _⟩ rfl (Nat.le_of_ble_eq_true rfl) dX4_onesIn_4) (fun r2 v3 H locs hI hp1 => ?_)
  subst hp1
  exact rI hQ F (v := ()) hI dX4_onesIn_7 (congrArg nI (fb_ct_cong fun t _ => Bool.and_self _))
set_option maxHeartbeats 400000 in
set_option maxRecDepth 100000 in
theorem kX4_refill (l : Launch) (E : EV) (u : SS) {b n : Nat} {f : Nat → Ln} (hb : b < 7) (hR : RepL b u.1 n f) (h16 : n ≤ 16) (hok : ∀ j, j < n → LnOk j (f j)) (src : Nat) (la : Int32) (k tk w : Nat) (hla : la = nI k - 1) (hs : src < 16) (hk : k ≤ n) (htk : tk ≤ 1000) (hw : w = (tk + 64 - 1) / 64) (hA : ∀ a, a < src → a < k → RowG u.2 f a w) (hB : ∀ a, src ≤ a → a ≠ src → a < k → (f a).1 = 0 → RowG u.2 f a w) : CT l yX4_refill cX4_refill 6 none (Rm 4 97) [.ref (eA E 9), .ref (eA E (10 + 3 * b)), .int (nI src), .int (la), .int (nI tk)] E u (Q_v E (fun g => ∀ i, i < k → RowG g f i w) (fun (g : GF) => (u.1, g))) := by
  refine mstart RX4 (by decide +kernel) rfl (Nat.le_of_ble_eq_true rfl) ?_
  intro p e s m args below meth co ls Q hQ F hI hl
  have hx := F.1
  have hy := F.2.1
  have hl : lv_has ls 6 [(0, .ref (eA E 9)), (1, .ref (eA E (10 + 3 * b))), (2, .int (nI src)), (3, .int (la)), (4, .int (nI tk))] := hl
  refine lv_iload_n hx hy dX4_refill_0 rfl (lv_at hl 2 rfl) ?_
  refine lv_istore (lv' := [(5, .int (nI src)), (0, .ref (eA E 9)), (1, .ref (eA E (10 + 3 * b))), (2, .int (nI src)), (3, .int (la)), (4, .int (nI tk))]) hx hy dX4_refill_1 hl (by decide) rfl (fun ls hl => ?_)
  have lp1 : ∀ (fu : Nat) (i : Nat) (g : GF), (src ≤ i ∧ (i ≤ k ∨ i = src)) → (k - i < fu) → (∀ a, a < i → a < k → RowG g f a w) → (∀ a, i ≤ a → a ≠ src → a < k → (f a).1 = 0 → RowG g f a w) →  ∀ (H : Heap) (locs : List Loc) (ls : Array Slot), Iv E s H locs ((u.1, g)) → lv_has ls 6 [(5, .int (nI i)), (0, .ref (eA E 9)), (1, .ref (eA E (10 + 3 * b))), (2, .int (nI src)), (3, .int (la)), (4, .int (nI tk))] → W p l e (Rm 4 97) s m args below meth co H locs 0 0 Q (F0 m 3 ls []) := by
    intro fu
    induction fu with
    | zero => intro i g hi hf hG hG2; exact absurd hf (Nat.not_lt_zero _)
    | succ fu ih =>
      intro i g hi hf hG hG2 H locs ls hI hl
      have ih_3 := ih
      refine lv_iload hx hy dX4_refill_3 (lv_at hl 0 rfl) ?_
      refine lv_iload_n hx hy dX4_refill_5 rfl (lv_at hl 4 rfl) ?_
      refine lv_icmp_gt (tgt := 46) hx hy dX4_refill_6 (by decide) (fun h2 => ?_) (fun h2 => ?_)
      · exact rV hQ F (v := g) hI dX4_refill_46 (fun a ha => hG a (by have := la_ge hla (by omega) (by omega) h2; omega) ha)
      · have hik : i < k := la_lt hla (by omega) (by omega) h2
        have hin : i < n := by omega
        refine lv_iload hx hy dX4_refill_9 (lv_at hl 0 rfl) ?_
        refine lv_bipush (v := nI 16) hx hy dX4_refill_11 (by decide) ?_
        refine lv_icmp_ge (tgt := 46) hx hy dX4_refill_13 (by decide) (fun h3 => ?_) (fun h3 => ?_)
        · have h3 : 16 ≤ i := (nI_leI (a := 16) (b := i) (by omega) (by omega)).mp h3
          exact absurd h3 (by omega)
        · have h3 : i < 16 := Nat.lt_of_not_le (fun q9 => h3 ((nI_leI (a := 16) (b := i) (by omega) (by omega)).mpr q9))
          refine lv_iload hx hy dX4_refill_16 (lv_at hl 0 rfl) ?_
          refine lv_iload_n hx hy dX4_refill_18 rfl (lv_at hl 3 rfl) ?_
          refine lv_icmp_eq (tgt := 31) hx hy dX4_refill_19 (by decide) (fun h4 => ?_) (fun h4 => ?_)
          · have h4 : i = src := (nI_eq (a := i) (b := src) (by omega) (by omega)).mp h4
            refine lv_aload_n hx hy dX4_refill_31 rfl (lv_at hl 1 rfl) ?_
            refine lv_aload_n hx hy dX4_refill_32 rfl (lv_at hl 2 rfl) ?_
            refine lv_iload hx hy dX4_refill_33 (lv_at hl 0 rfl) ?_
            refine lv_iload hx hy dX4_refill_35 (lv_at hl 5 rfl) ?_
            refine zV hI (xV F hI hl (kX4_fillRow l E ((u.1, g)) (b := b) (n := n) (f := f) hb hR h16 i tk w (by omega) (hok i (by omega)) htk hw (fun a ha => hG a ha (by omega))) M_X4_16 (rX4 F hI) rfl ⟨Nat.le_of_ble_eq_true rfl, Nat.le_of_ble_eq_true rfl⟩ ⟨Nat.zero_le _, Nat.zero_le _⟩ rfl (Nat.le_of_ble_eq_true rfl) dX4_refill_37) (fun v7 H locs hI hp5 => ?_)
            refine lv_iinc (v := nI (i + 1)) (lv' := [(5, .int (nI (i + 1))), (0, .ref (eA E 9)), (1, .ref (eA E (10 + 3 * b))), (2, .int (nI src)), (3, .int (la)), (4, .int (nI tk))]) hx hy dX4_refill_40 hl (k := 0) rfl (nI_add (i) 1) (by decide) rfl (fun ls hl => ?_)
            refine lv_goto (tgt := 3) hx hy dX4_refill_43 (by decide) ?_
            exact ih_3 (i + 1) v7 (by omega) (by omega) (fun a ha hk9 => by rcases Nat.lt_or_ge a i with q9 | q9; exact (hG a q9 hk9).keep hp5.2 (by omega); rw [show a = i from by omega]; exact hp5.1) (fun a ha h1 h2 h3 => (hG2 a (by omega) h1 h2 h3).keep hp5.2 (by omega)) _ _ _ hI (lv_sub hl [0, 1, 2, 3, 4, 5] rfl)
          · have h4 : i ≠ src := fun q9 => h4 ((nI_eq (a := i) (b := src) (by omega) (by omega)).mpr q9)
            refine lv_aload_n hx hy dX4_refill_22 rfl (lv_at hl 2 rfl) ?_
            refine lv_iload hx hy dX4_refill_23 (lv_at hl 0 rfl) ?_
            refine zI hI (xV F hI hl (kX0_kindOf l E ((u.1, g)) (b := b) hb (nI i)) M_X4_20 (rX0 F hI (b := b) hb) rfl ⟨Nat.le_of_ble_eq_true rfl, Nat.le_of_ble_eq_true rfl⟩ ⟨Nat.zero_le _, Nat.zero_le _⟩ rfl (Nat.le_of_ble_eq_true rfl) dX4_refill_25) (fun r9 v10 H locs hI hp8 => ?_)
            rw [el_lt (by omega) (by decide)] at hp8
            subst hp8
            refine tI (hR.2 i hin).1 ?_
            refine lv_if_eq (tgt := 40) hx hy dX4_refill_28 (by decide) (fun h11 => ?_) (fun h11 => ?_)
            · have h11 : (f i).1 = 0 := (nI_eq (a := (f i).1) (b := 0) (by have := (hok i hin).1; omega) (by omega)).mp h11
              refine lv_iinc (v := nI (i + 1)) (lv' := [(5, .int (nI (i + 1))), (0, .ref (eA E 9)), (1, .ref (eA E (10 + 3 * b))), (2, .int (nI src)), (3, .int (la)), (4, .int (nI tk))]) hx hy dX4_refill_40 hl (k := 0) rfl (nI_add (i) 1) (by decide) rfl (fun ls hl => ?_)
              refine lv_goto (tgt := 3) hx hy dX4_refill_43 (by decide) ?_
              exact ih_3 (i + 1) g (by omega) (by omega) (fun a ha hk9 => by rcases Nat.lt_or_ge a i with q9 | q9; exact hG a q9 hk9; rw [show a = i from by omega]; exact hG2 i (Nat.le_refl _) h4 hik h11) (fun a ha h1 h2 h3 => hG2 a (by omega) h1 h2 h3) _ _ _ hI (lv_sub hl [0, 1, 2, 3, 4, 5] rfl)
            · have h11 : (f i).1 ≠ 0 := fun q9 => h11 ((nI_eq (a := (f i).1) (b := 0) (by have := (hok i hin).1; omega) (by omega)).mpr q9)
              refine lv_aload_n hx hy dX4_refill_31 rfl (lv_at hl 1 rfl) ?_
              refine lv_aload_n hx hy dX4_refill_32 rfl (lv_at hl 2 rfl) ?_
              refine lv_iload hx hy dX4_refill_33 (lv_at hl 0 rfl) ?_
              refine lv_iload hx hy dX4_refill_35 (lv_at hl 5 rfl) ?_
              refine zV hI (xV F hI hl (kX4_fillRow l E ((u.1, g)) (b := b) (n := n) (f := f) hb hR h16 i tk w (by omega) (hok i (by omega)) htk hw (fun a ha => hG a ha (by omega))) M_X4_16 (rX4 F hI) rfl ⟨Nat.le_of_ble_eq_true rfl, Nat.le_of_ble_eq_true rfl⟩ ⟨Nat.zero_le _, Nat.zero_le _⟩ rfl (Nat.le_of_ble_eq_true rfl) dX4_refill_37) (fun v14 H locs hI hp12 => ?_)
              refine lv_iinc (v := nI (i + 1)) (lv' := [(5, .int (nI (i + 1))), (0, .ref (eA E 9)), (1, .ref (eA E (10 + 3 * b))), (2, .int (nI src)), (3, .int (la)), (4, .int (nI tk))]) hx hy dX4_refill_40 hl (k := 0) rfl (nI_add (i) 1) (by decide) rfl (fun ls hl => ?_)
              refine lv_goto (tgt := 3) hx hy dX4_refill_43 (by decide) ?_
              exact ih_3 (i + 1) v14 (by omega) (by omega) (fun a ha hk9 => by rcases Nat.lt_or_ge a i with q9 | q9; exact (hG a q9 hk9).keep hp12.2 (by omega); rw [show a = i from by omega]; exact hp12.1) (fun a ha h1 h2 h3 => (hG2 a (by omega) h1 h2 h3).keep hp12.2 (by omega)) _ _ _ hI (lv_sub hl [0, 1, 2, 3, 4, 5] rfl)
  exact lp1 (k + 1) src u.2 ⟨Nat.le_refl _, Or.inr rfl⟩ (by omega) hA hB _ _ _ hI (lv_sub hl [0, 1, 2, 3, 4, 5] rfl)
end
section
/-! exact shares, depths, origins: each line's out of those ahead -/
def tabN (st : Nat → Ln → (Nat → Nat) → Nat) (f : Nat → Ln) : Nat → Nat → Nat
  | 0 => fun _ => 0
  | j + 1 => fun i => if i = j then st j (f j) (tabN st f j) else tabN st f j i
def cv (st : Nat → Ln → (Nat → Nat) → Nat) (f : Nat → Ln) (j : Nat) : Nat := tabN st f (j + 1) j
theorem tabN_eq (st : Nat → Ln → (Nat → Nat) → Nat) (f : Nat → Ln) : ∀ (j i : Nat), i < j → tabN st f j i = cv st f i
  | 0, i, h => absurd h (Nat.not_lt_zero i)
  | j + 1, i, h => by
    by_cases e : i = j
    · subst e
      rfl
    · show (if i = j then st j (f j) (tabN st f j) else tabN st f j i) = _
      rw [if_neg e]
      exact tabN_eq st f j i (by omega)
theorem cv_eq {st : Nat → Ln → (Nat → Nat) → Nat} (hst : ∀ j q X Y, LnOk j q → (∀ i, i < j → X i = Y i) → st j q X = st j q Y) {f : Nat → Ln} {j : Nat} (hq : LnOk j (f j)) : cv st f j = st j (f j) (cv st f) := by
  show (if j = j then st j (f j) (tabN st f j) else tabN st f j j) = _
  rw [if_pos rfl]
  exact hst j _ _ _ hq (fun i hi => tabN_eq st f j i hi)
theorem tabN_cong (st : Nat → Ln → (Nat → Nat) → Nat) {f f' : Nat → Ln} : ∀ j, (∀ k, k < j → f k = f' k) → tabN st f j = tabN st f' j
  | 0, _ => rfl
  | j + 1, h => by
    funext i
    show (if i = j then st j (f j) (tabN st f j) else tabN st f j i) = (if i = j then st j (f' j) (tabN st f' j) else tabN st f' j i)
    rw [tabN_cong st j (fun k hk => h k (by omega)), h j (by omega)]
theorem cv_cong (st : Nat → Ln → (Nat → Nat) → Nat) {f f' : Nat → Ln} {j : Nat} (h : ∀ k, k ≤ j → f k = f' k) : cv st f j = cv st f' j := by
  unfold cv
  rw [tabN_cong st (j + 1) (fun k hk => h k (by omega))]
def exS (_ : Nat) (q : Ln) (X : Nat → Nat) : Nat :=
  if q.1 = 0 then q.2.1 * 256
  else if q.1 = 1 then X q.2.1 * X q.2.2.1 / 65536
  else if q.1 = 2 then X q.2.1 + X q.2.2.1 - X q.2.1 * X q.2.2.1 / 65536
  else if q.1 = 3 then X q.2.1 + X q.2.2.1 - 2 * (X q.2.1 * X q.2.2.1 / 65536)
  else if q.1 = 4 then (X q.2.1 * X q.2.2.2 + X q.2.2.1 * (65536 - X q.2.2.2)) / 65536
  else if q.1 = 5 then 65536 - X q.2.1
  else X q.2.1
def dpS (_ : Nat) (q : Ln) (X : Nat → Nat) : Nat :=
  if q.1 = 0 then 0
  else if q.1 ≤ 3 then max (1 + X q.2.1) (1 + X q.2.2.1)
  else if q.1 = 4 then max (max (1 + X q.2.1) (1 + X q.2.2.1)) (1 + X q.2.2.2)
  else 1 + X q.2.1
def ogS (j : Nat) (q : Ln) (X : Nat → Nat) : Nat :=
  if q.1 = 0 then 2 ^ j
  else if q.1 ≤ 3 then X q.2.1 ||| X q.2.2.1
  else if q.1 = 4 then X q.2.1 ||| X q.2.2.1 ||| X q.2.2.2
  else X q.2.1
def ex (f : Nat → Ln) (j : Nat) : Nat := cv exS f j
def dp (f : Nat → Ln) (j : Nat) : Nat := cv dpS f j
def og (f : Nat → Ln) (j : Nat) : Nat := cv ogS f j
theorem LnOk.ahead {j : Nat} {q : Ln} (h : LnOk j q) : q.1 = 0 ∨ (1 ≤ q.1 ∧ q.1 ≤ 3 ∧ q.2.1 < j ∧ q.2.2.1 < j) ∨ (q.1 = 4 ∧ q.2.1 < j ∧ q.2.2.1 < j ∧ q.2.2.2 < j) ∨ (q.1 = 5 ∧ q.2.1 < j) ∨ (q.1 = 6 ∧ q.2.1 < j) := by
  obtain ⟨h1, h2, h3, h4, h5, -⟩ := h
  rcases (show q.1 = 0 ∨ (1 ≤ q.1 ∧ q.1 ≤ 3) ∨ q.1 = 4 ∨ q.1 = 5 ∨ q.1 = 6 by omega) with k | k | k | k | k
  · exact Or.inl k
  · exact Or.inr (Or.inl ⟨k.1, k.2, h3 (by omega), h4 (by omega) (by omega)⟩)
  · exact Or.inr (Or.inr (Or.inl ⟨k, h3 (by omega), h4 (by omega) (by omega), h5 k⟩))
  · exact Or.inr (Or.inr (Or.inr (Or.inl ⟨k, h3 (by omega)⟩)))
  · exact Or.inr (Or.inr (Or.inr (Or.inr ⟨k, h3 (by omega)⟩)))
theorem exS_c (j : Nat) (q : Ln) (X Y : Nat → Nat) (hq : LnOk j q) (h : ∀ i, i < j → X i = Y i) : exS j q X = exS j q Y := by
  unfold exS
  rcases hq.ahead with k | ⟨k1, k2, ha, hb⟩ | ⟨k, ha, hb, hc⟩ | ⟨k, ha⟩ | ⟨k, ha⟩
  · rw [if_pos k, if_pos k]
  · rw [h _ ha, h _ hb]
    simp only [show ¬ q.1 = 4 by omega, show ¬ q.1 = 5 by omega, if_false]
  · rw [h _ ha, h _ hb, h _ hc]
  · rw [h _ ha]
    simp only [show ¬ q.1 = 1 by omega, show ¬ q.1 = 2 by omega, show ¬ q.1 = 3 by omega, show ¬ q.1 = 4 by omega, if_false]
  · rw [h _ ha]
    simp only [show ¬ q.1 = 1 by omega, show ¬ q.1 = 2 by omega, show ¬ q.1 = 3 by omega, show ¬ q.1 = 4 by omega, if_false]
theorem dpS_c (j : Nat) (q : Ln) (X Y : Nat → Nat) (hq : LnOk j q) (h : ∀ i, i < j → X i = Y i) : dpS j q X = dpS j q Y := by
  unfold dpS
  rcases hq.ahead with k | ⟨k1, k2, ha, hb⟩ | ⟨k, ha, hb, hc⟩ | ⟨k, ha⟩ | ⟨k, ha⟩
  · rw [if_pos k, if_pos k]
  · rw [h _ ha, h _ hb]
    simp only [show ¬ q.1 = 4 by omega, if_false]
  · rw [h _ ha, h _ hb, h _ hc]
  · rw [h _ ha]
    simp only [show ¬ q.1 ≤ 3 by omega, show ¬ q.1 = 4 by omega, if_false]
  · rw [h _ ha]
    simp only [show ¬ q.1 ≤ 3 by omega, show ¬ q.1 = 4 by omega, if_false]
theorem ogS_c (j : Nat) (q : Ln) (X Y : Nat → Nat) (hq : LnOk j q) (h : ∀ i, i < j → X i = Y i) : ogS j q X = ogS j q Y := by
  unfold ogS
  rcases hq.ahead with k | ⟨k1, k2, ha, hb⟩ | ⟨k, ha, hb, hc⟩ | ⟨k, ha⟩ | ⟨k, ha⟩
  · rw [if_pos k, if_pos k]
  · rw [h _ ha, h _ hb]
    simp only [show ¬ q.1 = 4 by omega, if_false]
  · rw [h _ ha, h _ hb, h _ hc]
  · rw [h _ ha]
    simp only [show ¬ q.1 ≤ 3 by omega, show ¬ q.1 = 4 by omega, if_false]
  · rw [h _ ha]
    simp only [show ¬ q.1 ≤ 3 by omega, show ¬ q.1 = 4 by omega, if_false]
theorem ex_eq {f : Nat → Ln} {j : Nat} (hq : LnOk j (f j)) : ex f j = exS j (f j) (ex f) := cv_eq exS_c hq
theorem dp_eq {f : Nat → Ln} {j : Nat} (hq : LnOk j (f j)) : dp f j = dpS j (f j) (dp f) := cv_eq dpS_c hq
theorem og_eq {f : Nat → Ln} {j : Nat} (hq : LnOk j (f j)) : og f j = ogS j (f j) (og f) := cv_eq ogS_c hq
theorem pq_le {a b : Nat} (ha : a ≤ 65536) : a * b / 65536 ≤ b := by
  have : a * b ≤ 65536 * b := Nat.mul_le_mul_right b ha
  omega
theorem pq_le2 {a b : Nat} (hb : b ≤ 65536) : a * b / 65536 ≤ a := by
  rw [Nat.mul_comm]
  exact pq_le hb
theorem pq_ge {a b : Nat} (ha : a ≤ 65536) (hb : b ≤ 65536) : a + b ≤ a * b / 65536 + 65536 := by
  obtain ⟨x, hx⟩ : ∃ x, x = 65536 - a := ⟨_, rfl⟩
  obtain ⟨y, hy⟩ : ∃ y, y = 65536 - b := ⟨_, rfl⟩
  have ea : a = 65536 - x := by omega
  have eb : b = 65536 - y := by omega
  have h : 65536 * (a + b) ≤ a * b + 65536 * 65536 := by
    obtain ⟨b', hb'⟩ : ∃ b', 65536 = b + b' := ⟨65536 - b, by omega⟩
    have h1 : a * b' ≤ 65536 * b' := Nat.mul_le_mul_right b' ha
    have h2 : a * 65536 = a * b + a * b' := by
      have : a * (b + b') = a * b + a * b' := Nat.mul_add a b b'
      rw [← hb'] at this
      exact this
    omega
  omega
/-- twice the product: within the whole -/
theorem pq_2 {a b : Nat} (ha : a ≤ 65536) (hb : b ≤ 65536) : a + b - 2 * (a * b / 65536) ≤ 65536 := by
  obtain ⟨x, hx⟩ : ∃ x, x = 65536 - a := ⟨_, rfl⟩
  obtain ⟨y, hy⟩ : ∃ y, y = 65536 - b := ⟨_, rfl⟩
  rcases Nat.le_total a b with h | h
  · have h2 : b * 65536 ≤ a * b + 65536 * (65536 - a) := by
      obtain ⟨a', ha'⟩ : ∃ a', 65536 = a + a' := ⟨65536 - a, by omega⟩
      have e : b * (a + a') = b * a + b * a' := Nat.mul_add b a a'
      rw [← ha'] at e
      have h3 : b * a' ≤ 65536 * a' := Nat.mul_le_mul_right a' hb
      have e2 : b * a = a * b := Nat.mul_comm b a
      have e3 : 65536 - a = a' := by omega
      rw [e3]
      omega
    have h4 := pq_ge ha hb
    omega
  · have h4 := pq_ge ha hb
    omega
theorem mix_le {a b c : Nat} (ha : a ≤ 65536) (hb : b ≤ 65536) (hc : c ≤ 65536) : (a * c + b * (65536 - c)) / 65536 ≤ 65536 := by
  have h1 : a * c ≤ 65536 * c := Nat.mul_le_mul_right c ha
  have h2 : b * (65536 - c) ≤ 65536 * (65536 - c) := Nat.mul_le_mul_right _ hb
  omega
theorem ex_le {f : Nat → Ln} {n : Nat} (hok : ∀ j, j < n → LnOk j (f j)) : ∀ j, j < n → ex f j ≤ 65536 := by
  intro j
  induction j using Nat.strongRecOn with
  | ind j ih =>
    intro hj
    have hq := hok j hj
    rw [ex_eq hq]
    unfold exS
    rcases hq.ahead with k | ⟨k1, k2, ha, hb⟩ | ⟨k, ha, hb, hc⟩ | ⟨k, ha⟩ | ⟨k, ha⟩
    · rw [if_pos k]
      have := (hq.2.1 k).1
      omega
    · have xa := ih _ ha (by omega)
      have xb := ih _ hb (by omega)
      have p1 := pq_le (b := ex f (f j).2.2.1) xa
      have p2 := pq_ge xa xb
      have p3 := pq_2 xa xb
      rcases (show (f j).1 = 1 ∨ (f j).1 = 2 ∨ (f j).1 = 3 by omega) with k | k | k
      · simp only [k, if_neg (show ¬ (1 : Nat) = 0 by decide), if_pos]
        omega
      · simp only [k, if_neg (show ¬ (2 : Nat) = 0 by decide), if_neg (show ¬ (2 : Nat) = 1 by decide), if_pos]
        omega
      · simp only [k, if_neg (show ¬ (3 : Nat) = 0 by decide), if_neg (show ¬ (3 : Nat) = 1 by decide), if_neg (show ¬ (3 : Nat) = 2 by decide), if_pos]
        omega
    · have xa := ih _ ha (by omega)
      have xb := ih _ hb (by omega)
      have xc := ih _ hc (by omega)
      have := mix_le xa xb xc
      simp only [k, if_neg (show ¬ (4 : Nat) = 0 by decide), if_neg (show ¬ (4 : Nat) = 1 by decide), if_neg (show ¬ (4 : Nat) = 2 by decide), if_neg (show ¬ (4 : Nat) = 3 by decide), if_pos]
      exact this
    · simp only [k, if_neg (show ¬ (5 : Nat) = 0 by decide), if_neg (show ¬ (5 : Nat) = 1 by decide), if_neg (show ¬ (5 : Nat) = 2 by decide), if_neg (show ¬ (5 : Nat) = 3 by decide), if_neg (show ¬ (5 : Nat) = 4 by decide), if_pos]
      omega
    · have xa := ih _ ha (by omega)
      simp only [k, if_neg (show ¬ (6 : Nat) = 0 by decide), if_neg (show ¬ (6 : Nat) = 1 by decide), if_neg (show ¬ (6 : Nat) = 2 by decide), if_neg (show ¬ (6 : Nat) = 3 by decide), if_neg (show ¬ (6 : Nat) = 4 by decide), if_neg (show ¬ (6 : Nat) = 5 by decide)]
      exact xa
theorem dp_le {f : Nat → Ln} {n : Nat} (hok : ∀ j, j < n → LnOk j (f j)) : ∀ j, j < n → dp f j ≤ j := by
  intro j
  induction j using Nat.strongRecOn with
  | ind j ih =>
    intro hj
    have hq := hok j hj
    rw [dp_eq hq]
    unfold dpS
    rcases hq.ahead with k | ⟨k1, k2, ha, hb⟩ | ⟨k, ha, hb, hc⟩ | ⟨k, ha⟩ | ⟨k, ha⟩
    · rw [if_pos k]; omega
    · have xa := ih _ ha (by omega)
      have xb := ih _ hb (by omega)
      rw [if_neg (by omega), if_pos k2]
      omega
    · have xa := ih _ ha (by omega)
      have xb := ih _ hb (by omega)
      have xc := ih _ hc (by omega)
      rw [if_neg (by omega), if_neg (by omega), if_pos k]
      omega
    · have xa := ih _ ha (by omega)
      rw [if_neg (by omega), if_neg (by omega), if_neg (by omega)]
      omega
    · have xa := ih _ ha (by omega)
      rw [if_neg (by omega), if_neg (by omega), if_neg (by omega)]
      omega
theorem og_lt {f : Nat → Ln} {n : Nat} (h16 : n ≤ 16) (hok : ∀ j, j < n → LnOk j (f j)) : ∀ j, j < n → og f j < 2 ^ 16 := by
  intro j
  induction j using Nat.strongRecOn with
  | ind j ih =>
    intro hj
    have hq := hok j hj
    rw [og_eq hq]
    unfold ogS
    rcases hq.ahead with k | ⟨k1, k2, ha, hb⟩ | ⟨k, ha, hb, hc⟩ | ⟨k, ha⟩ | ⟨k, ha⟩
    · rw [if_pos k]
      exact Nat.pow_lt_pow_right (by decide) (by omega)
    · rw [if_neg (by omega), if_pos k2]
      exact Nat.or_lt_two_pow (ih _ ha (by omega)) (ih _ hb (by omega))
    · rw [if_neg (by omega), if_neg (by omega), if_pos k]
      exact Nat.or_lt_two_pow (Nat.or_lt_two_pow (ih _ ha (by omega)) (ih _ hb (by omega))) (ih _ hc (by omega))
    · rw [if_neg (by omega), if_neg (by omega), if_neg (by omega)]
      exact ih _ ha (by omega)
    · rw [if_neg (by omega), if_neg (by omega), if_neg (by omega)]
      exact ih _ ha (by omega)
def FigI (i : Nat) (f : Nat → Ln) (c : CF) : Prop := (∀ a, a < i → c 3 a = nI (ex f a)) ∧ (∀ a, a < i → c 4 a = nI (dp f a)) ∧ ∀ a, a < i → c 5 a = nI (og f a)
def FigO (c0 c : CF) : Prop := ∀ q i, q ≠ 3 → q ≠ 4 → q ≠ 5 → c q i = c0 q i
theorem RepL.keep {b n : Nat} {f : Nat → Ln} {c c' : CF} (h : RepL b c n f) (h2 : c' 2 b = c 2 b) (hk : ∀ i, c' (20 + b) i = c (20 + b) i) (hn : ∀ i, c' (30 + b) i = c (30 + b) i) : RepL b c' n f := by
  refine ⟨h2.trans h.1, fun j hj => ?_⟩
  obtain ⟨a1, a2, a3, a4⟩ := h.2 j hj
  exact ⟨(hk _).trans a1, (hn _).trans a2, (hn _).trans a3, (hn _).trans a4⟩
theorem RepL.fig {b n : Nat} {f : Nat → Ln} {c c' : CF} (h : RepL b c n f) (ho : FigO c c') : RepL b c' n f := h.keep (ho _ _ (by omega) (by omega) (by omega)) (fun i => ho _ _ (by omega) (by omega) (by omega)) (fun i => ho _ _ (by omega) (by omega) (by omega))
theorem FigO.up {c0 c : CF} {r i : Nat} {v : Int32} (h : FigO c0 c) (hr : r = 3 ∨ r = 4 ∨ r = 5) : FigO c0 (up c r i v) := fun q j h3 h4 h5 => by
  rw [up_at, if_neg (by omega)]
  exact h q j h3 h4 h5
theorem shl_pow : ∀ j, j < 16 → nI 1 <<< (nI j &&& 31) = nI (2 ^ j) := by decide
def mxN (g : Nat → Nat) : Nat → Nat
  | 0 => 0
  | i + 1 => max (mxN g i) (g i)
theorem mxN_le {g : Nat → Nat} {k : Nat} : ∀ n, (∀ i, i < n → g i ≤ k) → mxN g n ≤ k
  | 0, _ => Nat.zero_le _
  | n + 1, h => by
    have h1 := mxN_le (k := k) n (fun i hi => h i (by omega))
    have h2 := h n (by omega)
    show max (mxN g n) (g n) ≤ k
    omega
end
