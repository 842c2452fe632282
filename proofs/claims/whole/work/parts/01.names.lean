-- ===== PART A: goes FIRST, ahead of the names: the tables' words, and 'selects' of the private methods out of them =====
/-- a private method of a class that the tables say can be made, by its rows of tables_1 -/
def lw_okq (q : MethodName × Nat) : Prop := (q.1.cls ≠ "java/lang/invoke/MethodHandle" ∧ q.1.cls ≠ "java/lang/invoke/VarHandle") ∧ Cond.instantiable q.1.cls q.2 ∈ tables_1 ∧ Cond.privateMethod q.1 ∈ tables_1 ∧ Cond.instanceMethod q.1 ∈ tables_1
theorem lw_p0 : lw_okq (⟨"ShareStreams", "addLine", "(IIII)I"⟩, 8) := ⟨⟨by decide +kernel, by decide +kernel⟩, List.mem_of_getElem? (i := 16) (by decide +kernel), List.mem_of_getElem? (i := 151) (by decide +kernel), List.mem_of_getElem? (i := 152) (by decide +kernel)⟩
theorem lw_p1 : lw_okq (⟨"ShareStreams$History", "push", "(LShareStreams$Bench;)V"⟩, 3) := ⟨⟨by decide +kernel, by decide +kernel⟩, List.mem_of_getElem? (i := 48) (by decide +kernel), List.mem_of_getElem? (i := 156) (by decide +kernel), List.mem_of_getElem? (i := 157) (by decide +kernel)⟩
theorem lw_p2 : lw_okq (⟨"ShareStreams$History", "stateAt", "(I)LShareStreams$Bench;"⟩, 3) := ⟨⟨by decide +kernel, by decide +kernel⟩, List.mem_of_getElem? (i := 48) (by decide +kernel), List.mem_of_getElem? (i := 160) (by decide +kernel), List.mem_of_getElem? (i := 161) (by decide +kernel)⟩
theorem lw_p3 : lw_okq (⟨"ShareStreams$Bench", "copyFrom", "(LShareStreams$Bench;)V"⟩, 4) := ⟨⟨by decide +kernel, by decide +kernel⟩, List.mem_of_getElem? (i := 24) (by decide +kernel), List.mem_of_getElem? (i := 167) (by decide +kernel), List.mem_of_getElem? (i := 168) (by decide +kernel)⟩
theorem lw_p4 : lw_okq (⟨"ShareStreams$Bench", "addAll", "(LShareStreams$Bench;)V"⟩, 4) := ⟨⟨by decide +kernel, by decide +kernel⟩, List.mem_of_getElem? (i := 24) (by decide +kernel), List.mem_of_getElem? (i := 171) (by decide +kernel), List.mem_of_getElem? (i := 172) (by decide +kernel)⟩
theorem lw_p5 : lw_okq (⟨"ShareStreams$Bench", "kindOf", "(I)I"⟩, 4) := ⟨⟨by decide +kernel, by decide +kernel⟩, List.mem_of_getElem? (i := 24) (by decide +kernel), List.mem_of_getElem? (i := 175) (by decide +kernel), List.mem_of_getElem? (i := 176) (by decide +kernel)⟩
theorem lw_p6 : lw_okq (⟨"ShareStreams$Bench", "numberOf", "(II)I"⟩, 4) := ⟨⟨by decide +kernel, by decide +kernel⟩, List.mem_of_getElem? (i := 24) (by decide +kernel), List.mem_of_getElem? (i := 182) (by decide +kernel), List.mem_of_getElem? (i := 183) (by decide +kernel)⟩
theorem lw_p7 : lw_okq (⟨"ShareStreams$Bench", "add", "(IIII)V"⟩, 4) := ⟨⟨by decide +kernel, by decide +kernel⟩, List.mem_of_getElem? (i := 24) (by decide +kernel), List.mem_of_getElem? (i := 186) (by decide +kernel), List.mem_of_getElem? (i := 187) (by decide +kernel)⟩
theorem lw_p8 : lw_okq (⟨"ShareStreams$Bench", "setNumber", "(III)V"⟩, 4) := ⟨⟨by decide +kernel, by decide +kernel⟩, List.mem_of_getElem? (i := 24) (by decide +kernel), List.mem_of_getElem? (i := 193) (by decide +kernel), List.mem_of_getElem? (i := 194) (by decide +kernel)⟩
theorem lw_p9 : lw_okq (⟨"ShareStreams$Bench", "has", "(I)Z"⟩, 4) := ⟨⟨by decide +kernel, by decide +kernel⟩, List.mem_of_getElem? (i := 24) (by decide +kernel), List.mem_of_getElem? (i := 202) (by decide +kernel), List.mem_of_getElem? (i := 203) (by decide +kernel)⟩
theorem lw_p10 : lw_okq (⟨"ShareStreams$Bench", "setSource", "(III)V"⟩, 4) := ⟨⟨by decide +kernel, by decide +kernel⟩, List.mem_of_getElem? (i := 24) (by decide +kernel), List.mem_of_getElem? (i := 227) (by decide +kernel), List.mem_of_getElem? (i := 228) (by decide +kernel)⟩
theorem lw_p11 : lw_okq (⟨"ShareStreams$Bench", "dropLast", "()V"⟩, 4) := ⟨⟨by decide +kernel, by decide +kernel⟩, List.mem_of_getElem? (i := 24) (by decide +kernel), List.mem_of_getElem? (i := 235) (by decide +kernel), List.mem_of_getElem? (i := 236) (by decide +kernel)⟩
theorem lw_p12 : lw_okq (⟨"ShareStreams$CircuitText", "readInto", "(LShareStreams$Bench;)I"⟩, 3) := ⟨⟨by decide +kernel, by decide +kernel⟩, List.mem_of_getElem? (i := 68) (by decide +kernel), List.mem_of_getElem? (i := 247) (by decide +kernel), List.mem_of_getElem? (i := 248) (by decide +kernel)⟩
theorem lw_p13 : lw_okq (⟨"ShareStreams$CircuitText", "readLine", "(LShareStreams$Bench;)Z"⟩, 3) := ⟨⟨by decide +kernel, by decide +kernel⟩, List.mem_of_getElem? (i := 68) (by decide +kernel), List.mem_of_getElem? (i := 251) (by decide +kernel), List.mem_of_getElem? (i := 252) (by decide +kernel)⟩
theorem lw_p14 : lw_okq (⟨"ShareStreams$CircuitText", "kindHere", "()I"⟩, 3) := ⟨⟨by decide +kernel, by decide +kernel⟩, List.mem_of_getElem? (i := 68) (by decide +kernel), List.mem_of_getElem? (i := 255) (by decide +kernel), List.mem_of_getElem? (i := 256) (by decide +kernel)⟩
theorem lw_p15 : lw_okq (⟨"ShareStreams$CircuitText", "isHere", "(C)Z"⟩, 3) := ⟨⟨by decide +kernel, by decide +kernel⟩, List.mem_of_getElem? (i := 68) (by decide +kernel), List.mem_of_getElem? (i := 313) (by decide +kernel), List.mem_of_getElem? (i := 314) (by decide +kernel)⟩
def lw_privs_1 : List (MethodName × Nat) := [(⟨"ShareStreams", "addLine", "(IIII)I"⟩, 8), (⟨"ShareStreams$History", "push", "(LShareStreams$Bench;)V"⟩, 3), (⟨"ShareStreams$History", "stateAt", "(I)LShareStreams$Bench;"⟩, 3), (⟨"ShareStreams$Bench", "copyFrom", "(LShareStreams$Bench;)V"⟩, 4), (⟨"ShareStreams$Bench", "addAll", "(LShareStreams$Bench;)V"⟩, 4), (⟨"ShareStreams$Bench", "kindOf", "(I)I"⟩, 4), (⟨"ShareStreams$Bench", "numberOf", "(II)I"⟩, 4), (⟨"ShareStreams$Bench", "add", "(IIII)V"⟩, 4), (⟨"ShareStreams$Bench", "setNumber", "(III)V"⟩, 4), (⟨"ShareStreams$Bench", "has", "(I)Z"⟩, 4), (⟨"ShareStreams$Bench", "setSource", "(III)V"⟩, 4), (⟨"ShareStreams$Bench", "dropLast", "()V"⟩, 4), (⟨"ShareStreams$CircuitText", "readInto", "(LShareStreams$Bench;)I"⟩, 3), (⟨"ShareStreams$CircuitText", "readLine", "(LShareStreams$Bench;)Z"⟩, 3), (⟨"ShareStreams$CircuitText", "kindHere", "()I"⟩, 3), (⟨"ShareStreams$CircuitText", "isHere", "(C)Z"⟩, 3)]
theorem lw_r1 : ∀ q ∈ lw_privs_1, lw_okq q := List.forall_mem_cons.mpr ⟨lw_p0, List.forall_mem_cons.mpr ⟨lw_p1, List.forall_mem_cons.mpr ⟨lw_p2, List.forall_mem_cons.mpr ⟨lw_p3, List.forall_mem_cons.mpr ⟨lw_p4, List.forall_mem_cons.mpr ⟨lw_p5, List.forall_mem_cons.mpr ⟨lw_p6, List.forall_mem_cons.mpr ⟨lw_p7, List.forall_mem_cons.mpr ⟨lw_p8, List.forall_mem_cons.mpr ⟨lw_p9, List.forall_mem_cons.mpr ⟨lw_p10, List.forall_mem_cons.mpr ⟨lw_p11, List.forall_mem_cons.mpr ⟨lw_p12, List.forall_mem_cons.mpr ⟨lw_p13, List.forall_mem_cons.mpr ⟨lw_p14, List.forall_mem_cons.mpr ⟨lw_p15, fun _ h => absurd h List.not_mem_nil⟩⟩⟩⟩⟩⟩⟩⟩⟩⟩⟩⟩⟩⟩⟩⟩
theorem lw_p16 : lw_okq (⟨"ShareStreams$CircuitText", "takeWord", "(Ljava/lang/String;)Z"⟩, 3) := ⟨⟨by decide +kernel, by decide +kernel⟩, List.mem_of_getElem? (i := 68) (by decide +kernel), List.mem_of_getElem? (i := 317) (by decide +kernel), List.mem_of_getElem? (i := 318) (by decide +kernel)⟩
theorem lw_p17 : lw_okq (⟨"ShareStreams$CircuitText", "take", "(C)Z"⟩, 3) := ⟨⟨by decide +kernel, by decide +kernel⟩, List.mem_of_getElem? (i := 68) (by decide +kernel), List.mem_of_getElem? (i := 329) (by decide +kernel), List.mem_of_getElem? (i := 330) (by decide +kernel)⟩
theorem lw_p18 : lw_okq (⟨"ShareStreams$CircuitText", "readNumber", "(II)I"⟩, 3) := ⟨⟨by decide +kernel, by decide +kernel⟩, List.mem_of_getElem? (i := 68) (by decide +kernel), List.mem_of_getElem? (i := 351) (by decide +kernel), List.mem_of_getElem? (i := 352) (by decide +kernel)⟩
theorem lw_p19 : lw_okq (⟨"ShareStreams$CircuitText", "digitHere", "()I"⟩, 3) := ⟨⟨by decide +kernel, by decide +kernel⟩, List.mem_of_getElem? (i := 68) (by decide +kernel), List.mem_of_getElem? (i := 355) (by decide +kernel), List.mem_of_getElem? (i := 356) (by decide +kernel)⟩
theorem lw_p20 : lw_okq (⟨"ShareStreams$CircuitText", "append", "(C)V"⟩, 3) := ⟨⟨by decide +kernel, by decide +kernel⟩, List.mem_of_getElem? (i := 68) (by decide +kernel), List.mem_of_getElem? (i := 371) (by decide +kernel), List.mem_of_getElem? (i := 372) (by decide +kernel)⟩
theorem lw_p21 : lw_okq (⟨"ShareStreams$History", "popInto", "(LShareStreams$Bench;)V"⟩, 3) := ⟨⟨by decide +kernel, by decide +kernel⟩, List.mem_of_getElem? (i := 48) (by decide +kernel), List.mem_of_getElem? (i := 383) (by decide +kernel), List.mem_of_getElem? (i := 384) (by decide +kernel)⟩
theorem lw_p22 : lw_okq (⟨"ShareStreams", "onesOver", "(II)I"⟩, 8) := ⟨⟨by decide +kernel, by decide +kernel⟩, List.mem_of_getElem? (i := 16) (by decide +kernel), List.mem_of_getElem? (i := 401) (by decide +kernel), List.mem_of_getElem? (i := 402) (by decide +kernel)⟩
theorem lw_p23 : lw_okq (⟨"ShareStreams$Streams", "fill", "(LShareStreams$Bench;II)V"⟩, 1) := ⟨⟨by decide +kernel, by decide +kernel⟩, List.mem_of_getElem? (i := 102) (by decide +kernel), List.mem_of_getElem? (i := 405) (by decide +kernel), List.mem_of_getElem? (i := 406) (by decide +kernel)⟩
theorem lw_p24 : lw_okq (⟨"ShareStreams$Streams", "fillRow", "(LShareStreams$Bench;II)V"⟩, 1) := ⟨⟨by decide +kernel, by decide +kernel⟩, List.mem_of_getElem? (i := 102) (by decide +kernel), List.mem_of_getElem? (i := 409) (by decide +kernel), List.mem_of_getElem? (i := 410) (by decide +kernel)⟩
theorem lw_p25 : lw_okq (⟨"ShareStreams$Streams", "fillSource", "(IIII)V"⟩, 1) := ⟨⟨by decide +kernel, by decide +kernel⟩, List.mem_of_getElem? (i := 102) (by decide +kernel), List.mem_of_getElem? (i := 415) (by decide +kernel), List.mem_of_getElem? (i := 416) (by decide +kernel)⟩
theorem lw_p26 : lw_okq (⟨"ShareStreams$Streams", "setWord", "(IIJ)V"⟩, 1) := ⟨⟨by decide +kernel, by decide +kernel⟩, List.mem_of_getElem? (i := 102) (by decide +kernel), List.mem_of_getElem? (i := 422) (by decide +kernel), List.mem_of_getElem? (i := 423) (by decide +kernel)⟩
theorem lw_p27 : lw_okq (⟨"ShareStreams$Streams", "madeWord", "(LShareStreams$Bench;II)J"⟩, 1) := ⟨⟨by decide +kernel, by decide +kernel⟩, List.mem_of_getElem? (i := 102) (by decide +kernel), List.mem_of_getElem? (i := 426) (by decide +kernel), List.mem_of_getElem? (i := 427) (by decide +kernel)⟩
theorem lw_p28 : lw_okq (⟨"ShareStreams$Streams", "wordAt", "(II)J"⟩, 1) := ⟨⟨by decide +kernel, by decide +kernel⟩, List.mem_of_getElem? (i := 102) (by decide +kernel), List.mem_of_getElem? (i := 430) (by decide +kernel), List.mem_of_getElem? (i := 431) (by decide +kernel)⟩
theorem lw_p29 : lw_okq (⟨"ShareStreams$Streams", "onesIn", "(II)I"⟩, 1) := ⟨⟨by decide +kernel, by decide +kernel⟩, List.mem_of_getElem? (i := 102) (by decide +kernel), List.mem_of_getElem? (i := 435) (by decide +kernel), List.mem_of_getElem? (i := 436) (by decide +kernel)⟩
theorem lw_p30 : lw_okq (⟨"ShareStreams$Streams", "onesInBoth", "(III)I"⟩, 1) := ⟨⟨by decide +kernel, by decide +kernel⟩, List.mem_of_getElem? (i := 102) (by decide +kernel), List.mem_of_getElem? (i := 439) (by decide +kernel), List.mem_of_getElem? (i := 440) (by decide +kernel)⟩
theorem lw_p31 : lw_okq (⟨"ShareStreams$Figures", "workOut", "(LShareStreams$Bench;)V"⟩, 3) := ⟨⟨by decide +kernel, by decide +kernel⟩, List.mem_of_getElem? (i := 86) (by decide +kernel), List.mem_of_getElem? (i := 453) (by decide +kernel), List.mem_of_getElem? (i := 454) (by decide +kernel)⟩
def lw_privs_2 : List (MethodName × Nat) := [(⟨"ShareStreams$CircuitText", "takeWord", "(Ljava/lang/String;)Z"⟩, 3), (⟨"ShareStreams$CircuitText", "take", "(C)Z"⟩, 3), (⟨"ShareStreams$CircuitText", "readNumber", "(II)I"⟩, 3), (⟨"ShareStreams$CircuitText", "digitHere", "()I"⟩, 3), (⟨"ShareStreams$CircuitText", "append", "(C)V"⟩, 3), (⟨"ShareStreams$History", "popInto", "(LShareStreams$Bench;)V"⟩, 3), (⟨"ShareStreams", "onesOver", "(II)I"⟩, 8), (⟨"ShareStreams$Streams", "fill", "(LShareStreams$Bench;II)V"⟩, 1), (⟨"ShareStreams$Streams", "fillRow", "(LShareStreams$Bench;II)V"⟩, 1), (⟨"ShareStreams$Streams", "fillSource", "(IIII)V"⟩, 1), (⟨"ShareStreams$Streams", "setWord", "(IIJ)V"⟩, 1), (⟨"ShareStreams$Streams", "madeWord", "(LShareStreams$Bench;II)J"⟩, 1), (⟨"ShareStreams$Streams", "wordAt", "(II)J"⟩, 1), (⟨"ShareStreams$Streams", "onesIn", "(II)I"⟩, 1), (⟨"ShareStreams$Streams", "onesInBoth", "(III)I"⟩, 1), (⟨"ShareStreams$Figures", "workOut", "(LShareStreams$Bench;)V"⟩, 3)]
theorem lw_r2 : ∀ q ∈ lw_privs_2, lw_okq q := List.forall_mem_cons.mpr ⟨lw_p16, List.forall_mem_cons.mpr ⟨lw_p17, List.forall_mem_cons.mpr ⟨lw_p18, List.forall_mem_cons.mpr ⟨lw_p19, List.forall_mem_cons.mpr ⟨lw_p20, List.forall_mem_cons.mpr ⟨lw_p21, List.forall_mem_cons.mpr ⟨lw_p22, List.forall_mem_cons.mpr ⟨lw_p23, List.forall_mem_cons.mpr ⟨lw_p24, List.forall_mem_cons.mpr ⟨lw_p25, List.forall_mem_cons.mpr ⟨lw_p26, List.forall_mem_cons.mpr ⟨lw_p27, List.forall_mem_cons.mpr ⟨lw_p28, List.forall_mem_cons.mpr ⟨lw_p29, List.forall_mem_cons.mpr ⟨lw_p30, List.forall_mem_cons.mpr ⟨lw_p31, fun _ h => absurd h List.not_mem_nil⟩⟩⟩⟩⟩⟩⟩⟩⟩⟩⟩⟩⟩⟩⟩⟩
theorem lw_p32 : lw_okq (⟨"ShareStreams$Figures", "exactShareIn", "(LShareStreams$Bench;I)I"⟩, 3) := ⟨⟨by decide +kernel, by decide +kernel⟩, List.mem_of_getElem? (i := 86) (by decide +kernel), List.mem_of_getElem? (i := 457) (by decide +kernel), List.mem_of_getElem? (i := 458) (by decide +kernel)⟩
theorem lw_p33 : lw_okq (⟨"ShareStreams$Figures", "exactShareOf", "(I)I"⟩, 3) := ⟨⟨by decide +kernel, by decide +kernel⟩, List.mem_of_getElem? (i := 86) (by decide +kernel), List.mem_of_getElem? (i := 462) (by decide +kernel), List.mem_of_getElem? (i := 463) (by decide +kernel)⟩
theorem lw_p34 : lw_okq (⟨"ShareStreams$Figures", "depthIn", "(LShareStreams$Bench;I)I"⟩, 3) := ⟨⟨by decide +kernel, by decide +kernel⟩, List.mem_of_getElem? (i := 86) (by decide +kernel), List.mem_of_getElem? (i := 477) (by decide +kernel), List.mem_of_getElem? (i := 478) (by decide +kernel)⟩
theorem lw_p35 : lw_okq (⟨"ShareStreams$Figures", "depthOf", "(I)I"⟩, 3) := ⟨⟨by decide +kernel, by decide +kernel⟩, List.mem_of_getElem? (i := 86) (by decide +kernel), List.mem_of_getElem? (i := 482) (by decide +kernel), List.mem_of_getElem? (i := 483) (by decide +kernel)⟩
theorem lw_p36 : lw_okq (⟨"ShareStreams$Figures", "originsIn", "(LShareStreams$Bench;I)I"⟩, 3) := ⟨⟨by decide +kernel, by decide +kernel⟩, List.mem_of_getElem? (i := 86) (by decide +kernel), List.mem_of_getElem? (i := 489) (by decide +kernel), List.mem_of_getElem? (i := 490) (by decide +kernel)⟩
theorem lw_p37 : lw_okq (⟨"ShareStreams", "errorOver", "(II)I"⟩, 8) := ⟨⟨by decide +kernel, by decide +kernel⟩, List.mem_of_getElem? (i := 16) (by decide +kernel), List.mem_of_getElem? (i := 494) (by decide +kernel), List.mem_of_getElem? (i := 495) (by decide +kernel)⟩
theorem lw_p38 : lw_okq (⟨"ShareStreams", "errorOfFilled", "(II)I"⟩, 8) := ⟨⟨by decide +kernel, by decide +kernel⟩, List.mem_of_getElem? (i := 16) (by decide +kernel), List.mem_of_getElem? (i := 498) (by decide +kernel), List.mem_of_getElem? (i := 499) (by decide +kernel)⟩
theorem lw_p39 : lw_okq (⟨"ShareStreams", "errorOfCount", "(III)I"⟩, 8) := ⟨⟨by decide +kernel, by decide +kernel⟩, List.mem_of_getElem? (i := 16) (by decide +kernel), List.mem_of_getElem? (i := 502) (by decide +kernel), List.mem_of_getElem? (i := 503) (by decide +kernel)⟩
theorem lw_p40 : lw_okq (⟨"ShareStreams$Figures", "sourcesOf", "(I)I"⟩, 3) := ⟨⟨by decide +kernel, by decide +kernel⟩, List.mem_of_getElem? (i := 86) (by decide +kernel), List.mem_of_getElem? (i := 510) (by decide +kernel), List.mem_of_getElem? (i := 511) (by decide +kernel)⟩
theorem lw_p41 : lw_okq (⟨"ShareStreams$Streams", "bitAt", "(II)I"⟩, 1) := ⟨⟨by decide +kernel, by decide +kernel⟩, List.mem_of_getElem? (i := 102) (by decide +kernel), List.mem_of_getElem? (i := 524) (by decide +kernel), List.mem_of_getElem? (i := 525) (by decide +kernel)⟩
theorem lw_p42 : lw_okq (⟨"ShareStreams", "lastLengthBeyond", "(II)I"⟩, 8) := ⟨⟨by decide +kernel, by decide +kernel⟩, List.mem_of_getElem? (i := 16) (by decide +kernel), List.mem_of_getElem? (i := 543) (by decide +kernel), List.mem_of_getElem? (i := 544) (by decide +kernel)⟩
theorem lw_p43 : lw_okq (⟨"ShareStreams", "errorWithSeed", "(III)I"⟩, 8) := ⟨⟨by decide +kernel, by decide +kernel⟩, List.mem_of_getElem? (i := 16) (by decide +kernel), List.mem_of_getElem? (i := 551) (by decide +kernel), List.mem_of_getElem? (i := 552) (by decide +kernel)⟩
theorem lw_p44 : lw_okq (⟨"ShareStreams$Streams", "refill", "(LShareStreams$Bench;III)V"⟩, 1) := ⟨⟨by decide +kernel, by decide +kernel⟩, List.mem_of_getElem? (i := 102) (by decide +kernel), List.mem_of_getElem? (i := 555) (by decide +kernel), List.mem_of_getElem? (i := 556) (by decide +kernel)⟩
theorem lw_p45 : lw_okq (⟨"ShareStreams$Bench", "sources", "()I"⟩, 4) := ⟨⟨by decide +kernel, by decide +kernel⟩, List.mem_of_getElem? (i := 24) (by decide +kernel), List.mem_of_getElem? (i := 567) (by decide +kernel), List.mem_of_getElem? (i := 568) (by decide +kernel)⟩
theorem lw_p46 : lw_okq (⟨"ShareStreams", "sumOfErrors", "()I"⟩, 8) := ⟨⟨by decide +kernel, by decide +kernel⟩, List.mem_of_getElem? (i := 16) (by decide +kernel), List.mem_of_getElem? (i := 571) (by decide +kernel), List.mem_of_getElem? (i := 572) (by decide +kernel)⟩
theorem lw_p47 : lw_okq (⟨"ShareStreams", "fillAll", "()V"⟩, 8) := ⟨⟨by decide +kernel, by decide +kernel⟩, List.mem_of_getElem? (i := 16) (by decide +kernel), List.mem_of_getElem? (i := 575) (by decide +kernel), List.mem_of_getElem? (i := 576) (by decide +kernel)⟩
def lw_privs_3 : List (MethodName × Nat) := [(⟨"ShareStreams$Figures", "exactShareIn", "(LShareStreams$Bench;I)I"⟩, 3), (⟨"ShareStreams$Figures", "exactShareOf", "(I)I"⟩, 3), (⟨"ShareStreams$Figures", "depthIn", "(LShareStreams$Bench;I)I"⟩, 3), (⟨"ShareStreams$Figures", "depthOf", "(I)I"⟩, 3), (⟨"ShareStreams$Figures", "originsIn", "(LShareStreams$Bench;I)I"⟩, 3), (⟨"ShareStreams", "errorOver", "(II)I"⟩, 8), (⟨"ShareStreams", "errorOfFilled", "(II)I"⟩, 8), (⟨"ShareStreams", "errorOfCount", "(III)I"⟩, 8), (⟨"ShareStreams$Figures", "sourcesOf", "(I)I"⟩, 3), (⟨"ShareStreams$Streams", "bitAt", "(II)I"⟩, 1), (⟨"ShareStreams", "lastLengthBeyond", "(II)I"⟩, 8), (⟨"ShareStreams", "errorWithSeed", "(III)I"⟩, 8), (⟨"ShareStreams$Streams", "refill", "(LShareStreams$Bench;III)V"⟩, 1), (⟨"ShareStreams$Bench", "sources", "()I"⟩, 4), (⟨"ShareStreams", "sumOfErrors", "()I"⟩, 8), (⟨"ShareStreams", "fillAll", "()V"⟩, 8)]
theorem lw_r3 : ∀ q ∈ lw_privs_3, lw_okq q := List.forall_mem_cons.mpr ⟨lw_p32, List.forall_mem_cons.mpr ⟨lw_p33, List.forall_mem_cons.mpr ⟨lw_p34, List.forall_mem_cons.mpr ⟨lw_p35, List.forall_mem_cons.mpr ⟨lw_p36, List.forall_mem_cons.mpr ⟨lw_p37, List.forall_mem_cons.mpr ⟨lw_p38, List.forall_mem_cons.mpr ⟨lw_p39, List.forall_mem_cons.mpr ⟨lw_p40, List.forall_mem_cons.mpr ⟨lw_p41, List.forall_mem_cons.mpr ⟨lw_p42, List.forall_mem_cons.mpr ⟨lw_p43, List.forall_mem_cons.mpr ⟨lw_p44, List.forall_mem_cons.mpr ⟨lw_p45, List.forall_mem_cons.mpr ⟨lw_p46, List.forall_mem_cons.mpr ⟨lw_p47, fun _ h => absurd h List.not_mem_nil⟩⟩⟩⟩⟩⟩⟩⟩⟩⟩⟩⟩⟩⟩⟩⟩
theorem lw_p48 : lw_okq (⟨"ShareStreams", "lineWithGreatestError", "()I"⟩, 8) := ⟨⟨by decide +kernel, by decide +kernel⟩, List.mem_of_getElem? (i := 16) (by decide +kernel), List.mem_of_getElem? (i := 579) (by decide +kernel), List.mem_of_getElem? (i := 580) (by decide +kernel)⟩
theorem lw_p49 : lw_okq (⟨"ShareStreams$Figures", "greatestDepth", "(I)I"⟩, 3) := ⟨⟨by decide +kernel, by decide +kernel⟩, List.mem_of_getElem? (i := 86) (by decide +kernel), List.mem_of_getElem? (i := 583) (by decide +kernel), List.mem_of_getElem? (i := 584) (by decide +kernel)⟩
theorem lw_p50 : lw_okq (⟨"ShareStreamsModel", "adds", "(IIII)I"⟩, 18) := ⟨⟨by decide +kernel, by decide +kernel⟩, List.mem_of_getElem? (i := 587) (by decide +kernel), List.mem_of_getElem? (i := 665) (by decide +kernel), List.mem_of_getElem? (i := 666) (by decide +kernel)⟩
theorem lw_p51 : lw_okq (⟨"ShareStreamsModel", "remember", "()V"⟩, 18) := ⟨⟨by decide +kernel, by decide +kernel⟩, List.mem_of_getElem? (i := 587) (by decide +kernel), List.mem_of_getElem? (i := 670) (by decide +kernel), List.mem_of_getElem? (i := 671) (by decide +kernel)⟩
theorem lw_p52 : lw_okq (⟨"ShareStreamsModel", "puts", "(IIII)V"⟩, 18) := ⟨⟨by decide +kernel, by decide +kernel⟩, List.mem_of_getElem? (i := 587) (by decide +kernel), List.mem_of_getElem? (i := 674) (by decide +kernel), List.mem_of_getElem? (i := 675) (by decide +kernel)⟩
theorem lw_p53 : lw_okq (⟨"ShareStreamsModel", "acted", "(I)I"⟩, 18) := ⟨⟨by decide +kernel, by decide +kernel⟩, List.mem_of_getElem? (i := 587) (by decide +kernel), List.mem_of_getElem? (i := 678) (by decide +kernel), List.mem_of_getElem? (i := 679) (by decide +kernel)⟩
theorem lw_p54 : lw_okq (⟨"ShareStreamsModel", "isLine", "(I)Z"⟩, 18) := ⟨⟨by decide +kernel, by decide +kernel⟩, List.mem_of_getElem? (i := 587) (by decide +kernel), List.mem_of_getElem? (i := 687) (by decide +kernel), List.mem_of_getElem? (i := 688) (by decide +kernel)⟩
theorem lw_p55 : lw_okq (⟨"ShareStreamsModel", "of", "(II)I"⟩, 18) := ⟨⟨by decide +kernel, by decide +kernel⟩, List.mem_of_getElem? (i := 587) (by decide +kernel), List.mem_of_getElem? (i := 710) (by decide +kernel), List.mem_of_getElem? (i := 711) (by decide +kernel)⟩
theorem lw_p56 : lw_okq (⟨"ShareStreamsModel", "fault", "()I"⟩, 18) := ⟨⟨by decide +kernel, by decide +kernel⟩, List.mem_of_getElem? (i := 587) (by decide +kernel), List.mem_of_getElem? (i := 736) (by decide +kernel), List.mem_of_getElem? (i := 737) (by decide +kernel)⟩
theorem lw_p57 : lw_okq (⟨"ShareStreamsModel", "readsLine", "()Z"⟩, 18) := ⟨⟨by decide +kernel, by decide +kernel⟩, List.mem_of_getElem? (i := 587) (by decide +kernel), List.mem_of_getElem? (i := 740) (by decide +kernel), List.mem_of_getElem? (i := 741) (by decide +kernel)⟩
theorem lw_p58 : lw_okq (⟨"ShareStreamsModel", "readsWord", "()I"⟩, 18) := ⟨⟨by decide +kernel, by decide +kernel⟩, List.mem_of_getElem? (i := 587) (by decide +kernel), List.mem_of_getElem? (i := 744) (by decide +kernel), List.mem_of_getElem? (i := 745) (by decide +kernel)⟩
theorem lw_p59 : lw_okq (⟨"ShareStreamsModel", "likeness", "(J)I"⟩, 18) := ⟨⟨by decide +kernel, by decide +kernel⟩, List.mem_of_getElem? (i := 587) (by decide +kernel), List.mem_of_getElem? (i := 748) (by decide +kernel), List.mem_of_getElem? (i := 749) (by decide +kernel)⟩
theorem lw_p60 : lw_okq (⟨"ShareStreamsModel", "readsPart", "(II)Z"⟩, 18) := ⟨⟨by decide +kernel, by decide +kernel⟩, List.mem_of_getElem? (i := 587) (by decide +kernel), List.mem_of_getElem? (i := 755) (by decide +kernel), List.mem_of_getElem? (i := 756) (by decide +kernel)⟩
theorem lw_p61 : lw_okq (⟨"ShareStreamsModel", "readsNumber", "(II)Z"⟩, 18) := ⟨⟨by decide +kernel, by decide +kernel⟩, List.mem_of_getElem? (i := 587) (by decide +kernel), List.mem_of_getElem? (i := 759) (by decide +kernel), List.mem_of_getElem? (i := 760) (by decide +kernel)⟩
theorem lw_p62 : lw_okq (⟨"ShareStreamsModel", "takes", "(I)Z"⟩, 18) := ⟨⟨by decide +kernel, by decide +kernel⟩, List.mem_of_getElem? (i := 587) (by decide +kernel), List.mem_of_getElem? (i := 763) (by decide +kernel), List.mem_of_getElem? (i := 764) (by decide +kernel)⟩
theorem lw_p63 : lw_okq (⟨"ShareStreamsModel", "isHere", "(II)Z"⟩, 18) := ⟨⟨by decide +kernel, by decide +kernel⟩, List.mem_of_getElem? (i := 587) (by decide +kernel), List.mem_of_getElem? (i := 767) (by decide +kernel), List.mem_of_getElem? (i := 768) (by decide +kernel)⟩
def lw_privs_4 : List (MethodName × Nat) := [(⟨"ShareStreams", "lineWithGreatestError", "()I"⟩, 8), (⟨"ShareStreams$Figures", "greatestDepth", "(I)I"⟩, 3), (⟨"ShareStreamsModel", "adds", "(IIII)I"⟩, 18), (⟨"ShareStreamsModel", "remember", "()V"⟩, 18), (⟨"ShareStreamsModel", "puts", "(IIII)V"⟩, 18), (⟨"ShareStreamsModel", "acted", "(I)I"⟩, 18), (⟨"ShareStreamsModel", "isLine", "(I)Z"⟩, 18), (⟨"ShareStreamsModel", "of", "(II)I"⟩, 18), (⟨"ShareStreamsModel", "fault", "()I"⟩, 18), (⟨"ShareStreamsModel", "readsLine", "()Z"⟩, 18), (⟨"ShareStreamsModel", "readsWord", "()I"⟩, 18), (⟨"ShareStreamsModel", "likeness", "(J)I"⟩, 18), (⟨"ShareStreamsModel", "readsPart", "(II)Z"⟩, 18), (⟨"ShareStreamsModel", "readsNumber", "(II)Z"⟩, 18), (⟨"ShareStreamsModel", "takes", "(I)Z"⟩, 18), (⟨"ShareStreamsModel", "isHere", "(II)Z"⟩, 18)]
theorem lw_r4 : ∀ q ∈ lw_privs_4, lw_okq q := List.forall_mem_cons.mpr ⟨lw_p48, List.forall_mem_cons.mpr ⟨lw_p49, List.forall_mem_cons.mpr ⟨lw_p50, List.forall_mem_cons.mpr ⟨lw_p51, List.forall_mem_cons.mpr ⟨lw_p52, List.forall_mem_cons.mpr ⟨lw_p53, List.forall_mem_cons.mpr ⟨lw_p54, List.forall_mem_cons.mpr ⟨lw_p55, List.forall_mem_cons.mpr ⟨lw_p56, List.forall_mem_cons.mpr ⟨lw_p57, List.forall_mem_cons.mpr ⟨lw_p58, List.forall_mem_cons.mpr ⟨lw_p59, List.forall_mem_cons.mpr ⟨lw_p60, List.forall_mem_cons.mpr ⟨lw_p61, List.forall_mem_cons.mpr ⟨lw_p62, List.forall_mem_cons.mpr ⟨lw_p63, fun _ h => absurd h List.not_mem_nil⟩⟩⟩⟩⟩⟩⟩⟩⟩⟩⟩⟩⟩⟩⟩⟩
theorem lw_p64 : lw_okq (⟨"ShareStreamsModel", "isAhead", "(I)Z"⟩, 18) := ⟨⟨by decide +kernel, by decide +kernel⟩, List.mem_of_getElem? (i := 587) (by decide +kernel), List.mem_of_getElem? (i := 772) (by decide +kernel), List.mem_of_getElem? (i := 773) (by decide +kernel)⟩
theorem lw_p65 : lw_okq (⟨"ShareStreamsModel", "lays", "(II)V"⟩, 18) := ⟨⟨by decide +kernel, by decide +kernel⟩, List.mem_of_getElem? (i := 587) (by decide +kernel), List.mem_of_getElem? (i := 796) (by decide +kernel), List.mem_of_getElem? (i := 797) (by decide +kernel)⟩
theorem lw_p66 : lw_okq (⟨"ShareStreamsModel", "bitOf", "(II)I"⟩, 18) := ⟨⟨by decide +kernel, by decide +kernel⟩, List.mem_of_getElem? (i := 587) (by decide +kernel), List.mem_of_getElem? (i := 800) (by decide +kernel), List.mem_of_getElem? (i := 801) (by decide +kernel)⟩
theorem lw_p67 : lw_okq (⟨"ShareStreamsModel", "bitAt", "(II)I"⟩, 18) := ⟨⟨by decide +kernel, by decide +kernel⟩, List.mem_of_getElem? (i := 587) (by decide +kernel), List.mem_of_getElem? (i := 804) (by decide +kernel), List.mem_of_getElem? (i := 805) (by decide +kernel)⟩
theorem lw_p68 : lw_okq (⟨"ShareStreamsModel", "findsExact", "(I)V"⟩, 18) := ⟨⟨by decide +kernel, by decide +kernel⟩, List.mem_of_getElem? (i := 587) (by decide +kernel), List.mem_of_getElem? (i := 811) (by decide +kernel), List.mem_of_getElem? (i := 812) (by decide +kernel)⟩
theorem lw_p69 : lw_okq (⟨"ShareStreamsModel", "findsDepths", "()V"⟩, 18) := ⟨⟨by decide +kernel, by decide +kernel⟩, List.mem_of_getElem? (i := 587) (by decide +kernel), List.mem_of_getElem? (i := 818) (by decide +kernel), List.mem_of_getElem? (i := 819) (by decide +kernel)⟩
theorem lw_p70 : lw_okq (⟨"ShareStreamsModel", "countOf", "(II)I"⟩, 18) := ⟨⟨by decide +kernel, by decide +kernel⟩, List.mem_of_getElem? (i := 587) (by decide +kernel), List.mem_of_getElem? (i := 822) (by decide +kernel), List.mem_of_getElem? (i := 823) (by decide +kernel)⟩
theorem lw_p71 : lw_okq (⟨"ShareStreamsModel", "errorBy", "(III)I"⟩, 18) := ⟨⟨by decide +kernel, by decide +kernel⟩, List.mem_of_getElem? (i := 587) (by decide +kernel), List.mem_of_getElem? (i := 826) (by decide +kernel), List.mem_of_getElem? (i := 827) (by decide +kernel)⟩
theorem lw_p72 : lw_okq (⟨"ShareStreamsModel", "errorOf", "(II)I"⟩, 18) := ⟨⟨by decide +kernel, by decide +kernel⟩, List.mem_of_getElem? (i := 587) (by decide +kernel), List.mem_of_getElem? (i := 849) (by decide +kernel), List.mem_of_getElem? (i := 850) (by decide +kernel)⟩
theorem lw_p73 : lw_okq (⟨"ShareStreamsModel", "manySources", "()I"⟩, 18) := ⟨⟨by decide +kernel, by decide +kernel⟩, List.mem_of_getElem? (i := 587) (by decide +kernel), List.mem_of_getElem? (i := 869) (by decide +kernel), List.mem_of_getElem? (i := 870) (by decide +kernel)⟩
theorem lw_p74 : lw_okq (⟨"ShareStreamsModel", "errors", "()I"⟩, 18) := ⟨⟨by decide +kernel, by decide +kernel⟩, List.mem_of_getElem? (i := 587) (by decide +kernel), List.mem_of_getElem? (i := 873) (by decide +kernel), List.mem_of_getElem? (i := 874) (by decide +kernel)⟩
theorem lw_p75 : lw_okq (⟨"ShareStreamsModel", "worst", "()I"⟩, 18) := ⟨⟨by decide +kernel, by decide +kernel⟩, List.mem_of_getElem? (i := 587) (by decide +kernel), List.mem_of_getElem? (i := 877) (by decide +kernel), List.mem_of_getElem? (i := 878) (by decide +kernel)⟩
theorem lw_p76 : lw_okq (⟨"ShareStreamsModel", "deepest", "()I"⟩, 18) := ⟨⟨by decide +kernel, by decide +kernel⟩, List.mem_of_getElem? (i := 587) (by decide +kernel), List.mem_of_getElem? (i := 881) (by decide +kernel), List.mem_of_getElem? (i := 882) (by decide +kernel)⟩
def lw_privs_5 : List (MethodName × Nat) := [(⟨"ShareStreamsModel", "isAhead", "(I)Z"⟩, 18), (⟨"ShareStreamsModel", "lays", "(II)V"⟩, 18), (⟨"ShareStreamsModel", "bitOf", "(II)I"⟩, 18), (⟨"ShareStreamsModel", "bitAt", "(II)I"⟩, 18), (⟨"ShareStreamsModel", "findsExact", "(I)V"⟩, 18), (⟨"ShareStreamsModel", "findsDepths", "()V"⟩, 18), (⟨"ShareStreamsModel", "countOf", "(II)I"⟩, 18), (⟨"ShareStreamsModel", "errorBy", "(III)I"⟩, 18), (⟨"ShareStreamsModel", "errorOf", "(II)I"⟩, 18), (⟨"ShareStreamsModel", "manySources", "()I"⟩, 18), (⟨"ShareStreamsModel", "errors", "()I"⟩, 18), (⟨"ShareStreamsModel", "worst", "()I"⟩, 18), (⟨"ShareStreamsModel", "deepest", "()I"⟩, 18)]
theorem lw_r5 : ∀ q ∈ lw_privs_5, lw_okq q := List.forall_mem_cons.mpr ⟨lw_p64, List.forall_mem_cons.mpr ⟨lw_p65, List.forall_mem_cons.mpr ⟨lw_p66, List.forall_mem_cons.mpr ⟨lw_p67, List.forall_mem_cons.mpr ⟨lw_p68, List.forall_mem_cons.mpr ⟨lw_p69, List.forall_mem_cons.mpr ⟨lw_p70, List.forall_mem_cons.mpr ⟨lw_p71, List.forall_mem_cons.mpr ⟨lw_p72, List.forall_mem_cons.mpr ⟨lw_p73, List.forall_mem_cons.mpr ⟨lw_p74, List.forall_mem_cons.mpr ⟨lw_p75, List.forall_mem_cons.mpr ⟨lw_p76, fun _ h => absurd h List.not_mem_nil⟩⟩⟩⟩⟩⟩⟩⟩⟩⟩⟩⟩⟩
def lw_privs : List (MethodName × Nat) := lw_privs_1 ++ (lw_privs_2 ++ (lw_privs_3 ++ (lw_privs_4 ++ (lw_privs_5))))
def lw_tbl : List Cond := k2_sels lw_privs ++ tables_1
theorem lw_privs_ok : ∀ q ∈ lw_privs, lw_okq q := by
  show ∀ q ∈ lw_privs_1 ++ (lw_privs_2 ++ (lw_privs_3 ++ (lw_privs_4 ++ (lw_privs_5)))), lw_okq q
  exact List.forall_mem_append.mpr ⟨lw_r1, List.forall_mem_append.mpr ⟨lw_r2, List.forall_mem_append.mpr ⟨lw_r3, List.forall_mem_append.mpr ⟨lw_r4, lw_r5⟩⟩⟩⟩
-- ===== end of PART A; then your names; then what follows =====
/-! ===== BEGIN words of one list among another's, by their places ===== -/
theorem goodIn_r {big : List Cond} (ws : List Cond) (ps : List Nat) (hp : ws = ps.filterMap (fun i => big[i]?)) (h : ws.all goodWord = true) : GoodIn big ws := by
  intro w hw
  have h1 := List.all_eq_true.mp h w hw
  rw [hp] at hw
  obtain ⟨i, -, hi⟩ := List.mem_filterMap.mp hw
  have hm : w ∈ big := by first | exact List.mem_of_getElem? hi | exact List.getElem?_mem hi
  exact ⟨hm, good_of_word h1⟩
theorem goodIn_app {big a b : List Cond} (ha : GoodIn big a) (hb : GoodIn big b) : GoodIn big (a ++ b) := fun w h => (List.mem_append.mp h).elim (ha w) (hb w)
theorem goodIn_ca {big a b : List Cond} {c : Cond} (ha : GoodIn big (c :: a)) (hb : GoodIn big b) : GoodIn big (c :: (a ++ b)) := fun w h => (List.mem_cons.mp h).elim (fun e => ha w (List.mem_cons.mpr (Or.inl e))) (fun h => (List.mem_append.mp h).elim (fun h => ha w (List.mem_cons.mpr (Or.inr h))) (hb w))
theorem goodIn_sub {big ws : List Cond} (hm : ∀ w ∈ ws, w ∈ big) (h : ws.all goodWord = true) : GoodIn big ws := fun w hw => ⟨hm w hw, good_of_word (List.all_eq_true.mp h w hw)⟩
/-! ===== END ===== -/

def RX0 : String := "ShareStreams$Bench"
def TX0 : u_T := fun k => match k with
  | 0 => ("ShareStreams$Bench", "length", "I", false)
  | 1 => ("ShareStreams$Bench", "size", "I", false)
  | 2 => ("ShareStreams$Bench", "kinds", "[I", true)
  | _ => ("ShareStreams$Bench", "numbers", "[I", true)
def tyX0 : Nat → FieldType := fun k => match k with
  | 0 => .int
  | 1 => .int
  | 2 => .array .int
  | _ => .array .int
abbrev wsX00 : List Cond := u_ws RX0 TX0 4
theorem nmX0 : ∀ a, a < 4 → ∀ b, b < 4 → a ≠ b → (TX0 a).2.1 ≠ (TX0 b).2.1 := by decide +kernel
theorem tyX0_ok : ∀ k, k < 4 → parseFieldDescriptor (TX0 k).2.2.1 = some (tyX0 k) := by decide +kernel
abbrev cX0_init : ByteArray := prog_2_method_1_code
def yX0_init : MethodName := ⟨RX0, "<init>", "()V"⟩
abbrev cX0_has : ByteArray := prog_2_method_2_code
def yX0_has : MethodName := ⟨RX0, "has", "(I)Z"⟩
abbrev cX0_kindOf : ByteArray := prog_2_method_3_code
def yX0_kindOf : MethodName := ⟨RX0, "kindOf", "(I)I"⟩
abbrev cX0_numberOf : ByteArray := prog_2_method_4_code
def yX0_numberOf : MethodName := ⟨RX0, "numberOf", "(II)I"⟩
abbrev cX0_setNumber : ByteArray := prog_2_method_5_code
def yX0_setNumber : MethodName := ⟨RX0, "setNumber", "(III)V"⟩
abbrev cX0_sources : ByteArray := prog_2_method_6_code
def yX0_sources : MethodName := ⟨RX0, "sources", "()I"⟩
abbrev cX0_add : ByteArray := prog_2_method_7_code
def yX0_add : MethodName := ⟨RX0, "add", "(IIII)V"⟩
abbrev cX0_addAll : ByteArray := prog_2_method_8_code
def yX0_addAll : MethodName := ⟨RX0, "addAll", "(LShareStreams$Bench;)V"⟩
abbrev cX0_setSource : ByteArray := prog_2_method_9_code
def yX0_setSource : MethodName := ⟨RX0, "setSource", "(III)V"⟩
abbrev cX0_dropLast : ByteArray := prog_2_method_10_code
def yX0_dropLast : MethodName := ⟨RX0, "dropLast", "()V"⟩
abbrev cX0_copyFrom : ByteArray := prog_2_method_11_code
def yX0_copyFrom : MethodName := ⟨RX0, "copyFrom", "(LShareStreams$Bench;)V"⟩
def RX1 : String := "ShareStreams$CircuitText"
def TX1 : u_T := fun k => match k with
  | 0 => ("ShareStreams$CircuitText", "characters", "[C", true)
  | 1 => ("ShareStreams$CircuitText", "size", "I", false)
  | _ => ("ShareStreams$CircuitText", "place", "I", false)
def tyX1 : Nat → FieldType := fun k => match k with
  | 0 => .array .char
  | 1 => .int
  | _ => .int
abbrev wsX10 : List Cond := u_ws RX1 TX1 3
theorem nmX1 : ∀ a, a < 3 → ∀ b, b < 3 → a ≠ b → (TX1 a).2.1 ≠ (TX1 b).2.1 := by decide +kernel
theorem tyX1_ok : ∀ k, k < 3 → parseFieldDescriptor (TX1 k).2.2.1 = some (tyX1 k) := by decide +kernel
abbrev cX1_init : ByteArray := prog_3_method_1_code
def yX1_init : MethodName := ⟨RX1, "<init>", "()V"⟩
abbrev cX1_append : ByteArray := prog_3_method_2_code
def yX1_append : MethodName := ⟨RX1, "append", "(C)V"⟩
abbrev cX1_readInto : ByteArray := prog_3_method_3_code
def yX1_readInto : MethodName := ⟨RX1, "readInto", "(LShareStreams$Bench;)I"⟩
abbrev cX1_readLine : ByteArray := prog_3_method_4_code
def yX1_readLine : MethodName := ⟨RX1, "readLine", "(LShareStreams$Bench;)Z"⟩
abbrev cX1_kindHere : ByteArray := prog_3_method_5_code
def yX1_kindHere : MethodName := ⟨RX1, "kindHere", "()I"⟩
abbrev cX1_wordOfKind : ByteArray := prog_3_method_6_code
def yX1_wordOfKind : MethodName := ⟨RX1, "wordOfKind", "(I)Ljava/lang/String;"⟩
abbrev cX1_leastNumber : ByteArray := prog_3_method_7_code
def yX1_leastNumber : MethodName := ⟨RX1, "leastNumber", "(II)I"⟩
abbrev cX1_mostNumber : ByteArray := prog_3_method_8_code
def yX1_mostNumber : MethodName := ⟨RX1, "mostNumber", "(II)I"⟩
abbrev cX1_readNumber : ByteArray := prog_3_method_9_code
def yX1_readNumber : MethodName := ⟨RX1, "readNumber", "(II)I"⟩
abbrev cX1_digitHere : ByteArray := prog_3_method_10_code
def yX1_digitHere : MethodName := ⟨RX1, "digitHere", "()I"⟩
abbrev cX1_takeWord : ByteArray := prog_3_method_11_code
def yX1_takeWord : MethodName := ⟨RX1, "takeWord", "(Ljava/lang/String;)Z"⟩
abbrev cX1_take : ByteArray := prog_3_method_12_code
def yX1_take : MethodName := ⟨RX1, "take", "(C)Z"⟩
abbrev cX1_isHere : ByteArray := prog_3_method_13_code
def yX1_isHere : MethodName := ⟨RX1, "isHere", "(C)Z"⟩
def RX2 : String := "ShareStreams$Figures"
def TX2 : u_T := fun k => match k with
  | 0 => ("ShareStreams$Figures", "exactShares", "[I", true)
  | 1 => ("ShareStreams$Figures", "depths", "[I", true)
  | _ => ("ShareStreams$Figures", "origins", "[I", true)
def tyX2 : Nat → FieldType := fun k => match k with
  | 0 => .array .int
  | 1 => .array .int
  | _ => .array .int
abbrev wsX20 : List Cond := u_ws RX2 TX2 3
theorem nmX2 : ∀ a, a < 3 → ∀ b, b < 3 → a ≠ b → (TX2 a).2.1 ≠ (TX2 b).2.1 := by decide +kernel
theorem tyX2_ok : ∀ k, k < 3 → parseFieldDescriptor (TX2 k).2.2.1 = some (tyX2 k) := by decide +kernel
abbrev cX2_init : ByteArray := prog_4_method_1_code
def yX2_init : MethodName := ⟨RX2, "<init>", "()V"⟩
abbrev cX2_workOut : ByteArray := prog_4_method_2_code
def yX2_workOut : MethodName := ⟨RX2, "workOut", "(LShareStreams$Bench;)V"⟩
abbrev cX2_exactShareOf : ByteArray := prog_4_method_3_code
def yX2_exactShareOf : MethodName := ⟨RX2, "exactShareOf", "(I)I"⟩
abbrev cX2_depthOf : ByteArray := prog_4_method_4_code
def yX2_depthOf : MethodName := ⟨RX2, "depthOf", "(I)I"⟩
abbrev cX2_sourcesOf : ByteArray := prog_4_method_5_code
def yX2_sourcesOf : MethodName := ⟨RX2, "sourcesOf", "(I)I"⟩
abbrev cX2_greatestDepth : ByteArray := prog_4_method_6_code
def yX2_greatestDepth : MethodName := ⟨RX2, "greatestDepth", "(I)I"⟩
abbrev cX2_exactShareIn : ByteArray := prog_4_method_7_code
def yX2_exactShareIn : MethodName := ⟨RX2, "exactShareIn", "(LShareStreams$Bench;I)I"⟩
abbrev cX2_productOf : ByteArray := prog_4_method_8_code
def yX2_productOf : MethodName := ⟨RX2, "productOf", "(JJ)I"⟩
abbrev cX2_mixOf : ByteArray := prog_4_method_9_code
def yX2_mixOf : MethodName := ⟨RX2, "mixOf", "(JJJ)I"⟩
abbrev cX2_depthIn : ByteArray := prog_4_method_10_code
def yX2_depthIn : MethodName := ⟨RX2, "depthIn", "(LShareStreams$Bench;I)I"⟩
abbrev cX2_originsIn : ByteArray := prog_4_method_11_code
def yX2_originsIn : MethodName := ⟨RX2, "originsIn", "(LShareStreams$Bench;I)I"⟩
def RX3 : String := "ShareStreams$History"
def TX3 : u_T := fun k => match k with
  | 0 => ("ShareStreams$History", "states", "[LShareStreams$Bench;", true)
  | 1 => ("ShareStreams$History", "oldest", "I", false)
  | _ => ("ShareStreams$History", "size", "I", false)
def tyX3 : Nat → FieldType := fun k => match k with
  | 0 => .array (.object "ShareStreams$Bench")
  | 1 => .int
  | _ => .int
abbrev wsX30 : List Cond := u_ws RX3 TX3 3
theorem nmX3 : ∀ a, a < 3 → ∀ b, b < 3 → a ≠ b → (TX3 a).2.1 ≠ (TX3 b).2.1 := by decide +kernel
theorem tyX3_ok : ∀ k, k < 3 → parseFieldDescriptor (TX3 k).2.2.1 = some (tyX3 k) := by decide +kernel
abbrev cX3_init : ByteArray := prog_5_method_1_code
def yX3_init : MethodName := ⟨RX3, "<init>", "()V"⟩
abbrev cX3_push : ByteArray := prog_5_method_2_code
def yX3_push : MethodName := ⟨RX3, "push", "(LShareStreams$Bench;)V"⟩
abbrev cX3_popInto : ByteArray := prog_5_method_3_code
def yX3_popInto : MethodName := ⟨RX3, "popInto", "(LShareStreams$Bench;)V"⟩
abbrev cX3_stateAt : ByteArray := prog_5_method_4_code
def yX3_stateAt : MethodName := ⟨RX3, "stateAt", "(I)LShareStreams$Bench;"⟩
def RX4 : String := "ShareStreams$Streams"
def TX4 : u_T := fun k => match k with
  | _ => ("ShareStreams$Streams", "rows", "[[J", true)
def tyX4 : Nat → FieldType := fun k => match k with
  | _ => .array (.array .long)
abbrev wsX40 : List Cond := u_ws RX4 TX4 1
theorem nmX4 : ∀ a, a < 1 → ∀ b, b < 1 → a ≠ b → (TX4 a).2.1 ≠ (TX4 b).2.1 := by decide +kernel
theorem tyX4_ok : ∀ k, k < 1 → parseFieldDescriptor (TX4 k).2.2.1 = some (tyX4 k) := by decide +kernel
abbrev cX4_init : ByteArray := prog_6_method_1_code
def yX4_init : MethodName := ⟨RX4, "<init>", "()V"⟩
abbrev cX4_fill : ByteArray := prog_6_method_2_code
def yX4_fill : MethodName := ⟨RX4, "fill", "(LShareStreams$Bench;II)V"⟩
abbrev cX4_refill : ByteArray := prog_6_method_3_code
def yX4_refill : MethodName := ⟨RX4, "refill", "(LShareStreams$Bench;III)V"⟩
abbrev cX4_fillRow : ByteArray := prog_6_method_4_code
def yX4_fillRow : MethodName := ⟨RX4, "fillRow", "(LShareStreams$Bench;II)V"⟩
abbrev cX4_fillSource : ByteArray := prog_6_method_5_code
def yX4_fillSource : MethodName := ⟨RX4, "fillSource", "(IIII)V"⟩
abbrev cX4_nextRegister : ByteArray := prog_6_method_6_code
def yX4_nextRegister : MethodName := ⟨RX4, "nextRegister", "(I)I"⟩
abbrev cX4_madeWord : ByteArray := prog_6_method_7_code
def yX4_madeWord : MethodName := ⟨RX4, "madeWord", "(LShareStreams$Bench;II)J"⟩
abbrev cX4_bitAt : ByteArray := prog_6_method_8_code
def yX4_bitAt : MethodName := ⟨RX4, "bitAt", "(II)I"⟩
abbrev cX4_onesIn : ByteArray := prog_6_method_9_code
def yX4_onesIn : MethodName := ⟨RX4, "onesIn", "(II)I"⟩
abbrev cX4_onesInBoth : ByteArray := prog_6_method_10_code
def yX4_onesInBoth : MethodName := ⟨RX4, "onesInBoth", "(III)I"⟩
abbrev cX4_wordAt : ByteArray := prog_6_method_11_code
def yX4_wordAt : MethodName := ⟨RX4, "wordAt", "(II)J"⟩
abbrev cX4_setWord : ByteArray := prog_6_method_12_code
def yX4_setWord : MethodName := ⟨RX4, "setWord", "(IIJ)V"⟩
def RX5 : String := "ShareStreams"
def TX5 : u_T := fun k => match k with
  | 0 => ("ShareStreams", "bench", "LShareStreams$Bench;", true)
  | 1 => ("ShareStreams", "snapshot", "LShareStreams$Bench;", true)
  | 2 => ("ShareStreams", "hasSnapshot", "Z", false)
  | 3 => ("ShareStreams", "spare", "LShareStreams$Bench;", true)
  | 4 => ("ShareStreams", "history", "LShareStreams$History;", true)
  | 5 => ("ShareStreams", "text", "LShareStreams$CircuitText;", true)
  | 6 => ("ShareStreams", "figures", "LShareStreams$Figures;", true)
  | _ => ("ShareStreams", "streams", "LShareStreams$Streams;", true)
def tyX5 : Nat → FieldType := fun k => match k with
  | 0 => .object "ShareStreams$Bench"
  | 1 => .object "ShareStreams$Bench"
  | 2 => .boolean
  | 3 => .object "ShareStreams$Bench"
  | 4 => .object "ShareStreams$History"
  | 5 => .object "ShareStreams$CircuitText"
  | 6 => .object "ShareStreams$Figures"
  | _ => .object "ShareStreams$Streams"
abbrev wsX50 : List Cond := u_ws RX5 TX5 8
theorem nmX5 : ∀ a, a < 8 → ∀ b, b < 8 → a ≠ b → (TX5 a).2.1 ≠ (TX5 b).2.1 := by decide +kernel
theorem tyX5_ok : ∀ k, k < 8 → parseFieldDescriptor (TX5 k).2.2.1 = some (tyX5 k) := by decide +kernel
abbrev cX5_init : ByteArray := prog_1_method_1_code
def yX5_init : MethodName := ⟨RX5, "<init>", "()V"⟩
abbrev cX5_source : ByteArray := prog_1_method_2_code
def yX5_source : MethodName := ⟨RX5, "source", "(II)I"⟩
abbrev cX5_gate : ByteArray := prog_1_method_3_code
def yX5_gate : MethodName := ⟨RX5, "gate", "(III)I"⟩
abbrev cX5_choose : ByteArray := prog_1_method_4_code
def yX5_choose : MethodName := ⟨RX5, "choose", "(III)I"⟩
abbrev cX5_turn : ByteArray := prog_1_method_5_code
def yX5_turn : MethodName := ⟨RX5, "turn", "(I)I"⟩
abbrev cX5_delay : ByteArray := prog_1_method_6_code
def yX5_delay : MethodName := ⟨RX5, "delay", "(II)I"⟩
abbrev cX5_reseed : ByteArray := prog_1_method_7_code
def yX5_reseed : MethodName := ⟨RX5, "reseed", "(III)I"⟩
abbrev cX5_removeLast : ByteArray := prog_1_method_8_code
def yX5_removeLast : MethodName := ⟨RX5, "removeLast", "()I"⟩
abbrev cX5_setLength : ByteArray := prog_1_method_9_code
def yX5_setLength : MethodName := ⟨RX5, "setLength", "(I)I"⟩
abbrev cX5_readCircuit : ByteArray := prog_1_method_10_code
def yX5_readCircuit : MethodName := ⟨RX5, "readCircuit", "()I"⟩
abbrev cX5_type : ByteArray := prog_1_method_11_code
def yX5_type : MethodName := ⟨RX5, "type", "(C)I"⟩
abbrev cX5_clearText : ByteArray := prog_1_method_12_code
def yX5_clearText : MethodName := ⟨RX5, "clearText", "()I"⟩
abbrev cX5_undo : ByteArray := prog_1_method_13_code
def yX5_undo : MethodName := ⟨RX5, "undo", "()I"⟩
abbrev cX5_keep : ByteArray := prog_1_method_14_code
def yX5_keep : MethodName := ⟨RX5, "keep", "()I"⟩
abbrev cX5_restore : ByteArray := prog_1_method_15_code
def yX5_restore : MethodName := ⟨RX5, "restore", "()I"⟩
abbrev cX5_line : ByteArray := prog_1_method_16_code
def yX5_line : MethodName := ⟨RX5, "line", "(II)I"⟩
abbrev cX5_bit : ByteArray := prog_1_method_17_code
def yX5_bit : MethodName := ⟨RX5, "bit", "(II)I"⟩
abbrev cX5_overlap : ByteArray := prog_1_method_18_code
def yX5_overlap : MethodName := ⟨RX5, "overlap", "(II)I"⟩
abbrev cX5_errorAt : ByteArray := prog_1_method_19_code
def yX5_errorAt : MethodName := ⟨RX5, "errorAt", "(II)I"⟩
abbrev cX5_settles : ByteArray := prog_1_method_20_code
def yX5_settles : MethodName := ⟨RX5, "settles", "(II)I"⟩
abbrev cX5_bestSeed : ByteArray := prog_1_method_21_code
def yX5_bestSeed : MethodName := ⟨RX5, "bestSeed", "(III)I"⟩
abbrev cX5_unlike : ByteArray := prog_1_method_22_code
def yX5_unlike : MethodName := ⟨RX5, "unlike", "(I)I"⟩
abbrev cX5_count : ByteArray := prog_1_method_23_code
def yX5_count : MethodName := ⟨RX5, "count", "(I)I"⟩
abbrev cX5_addLine : ByteArray := prog_1_method_24_code
def yX5_addLine : MethodName := ⟨RX5, "addLine", "(IIII)I"⟩
abbrev cX5_onesOver : ByteArray := prog_1_method_25_code
def yX5_onesOver : MethodName := ⟨RX5, "onesOver", "(II)I"⟩
abbrev cX5_errorOver : ByteArray := prog_1_method_26_code
def yX5_errorOver : MethodName := ⟨RX5, "errorOver", "(II)I"⟩
abbrev cX5_errorOfFilled : ByteArray := prog_1_method_27_code
def yX5_errorOfFilled : MethodName := ⟨RX5, "errorOfFilled", "(II)I"⟩
abbrev cX5_errorOfCount : ByteArray := prog_1_method_28_code
def yX5_errorOfCount : MethodName := ⟨RX5, "errorOfCount", "(III)I"⟩
abbrev cX5_lastLengthBeyond : ByteArray := prog_1_method_29_code
def yX5_lastLengthBeyond : MethodName := ⟨RX5, "lastLengthBeyond", "(II)I"⟩
abbrev cX5_errorWithSeed : ByteArray := prog_1_method_30_code
def yX5_errorWithSeed : MethodName := ⟨RX5, "errorWithSeed", "(III)I"⟩
abbrev cX5_sumOfErrors : ByteArray := prog_1_method_31_code
def yX5_sumOfErrors : MethodName := ⟨RX5, "sumOfErrors", "()I"⟩
abbrev cX5_lineWithGreatestError : ByteArray := prog_1_method_32_code
def yX5_lineWithGreatestError : MethodName := ⟨RX5, "lineWithGreatestError", "()I"⟩
abbrev cX5_fillAll : ByteArray := prog_1_method_33_code
def yX5_fillAll : MethodName := ⟨RX5, "fillAll", "()V"⟩
abbrev cX5_isMadeOfLinesAhead : ByteArray := prog_1_method_34_code
def yX5_isMadeOfLinesAhead : MethodName := ⟨RX5, "isMadeOfLinesAhead", "(LShareStreams$Bench;I)Z"⟩
abbrev cX5_shareOf : ByteArray := prog_1_method_35_code
def yX5_shareOf : MethodName := ⟨RX5, "shareOf", "(II)I"⟩
abbrev cX5_isShareAndSeed : ByteArray := prog_1_method_36_code
def yX5_isShareAndSeed : MethodName := ⟨RX5, "isShareAndSeed", "(II)Z"⟩
abbrev cX5_isWithin : ByteArray := prog_1_method_37_code
def yX5_isWithin : MethodName := ⟨RX5, "isWithin", "(III)Z"⟩
abbrev cX5_numbersOfKind : ByteArray := prog_1_method_38_code
def yX5_numbersOfKind : MethodName := ⟨RX5, "numbersOfKind", "(I)I"⟩
abbrev cX5_linesOfKind : ByteArray := prog_1_method_39_code
def yX5_linesOfKind : MethodName := ⟨RX5, "linesOfKind", "(I)I"⟩
abbrev cX5_elementAt : ByteArray := prog_1_method_40_code
def yX5_elementAt : MethodName := ⟨RX5, "elementAt", "([II)I"⟩
abbrev cX5_setElement : ByteArray := prog_1_method_41_code
def yX5_setElement : MethodName := ⟨RX5, "setElement", "([III)V"⟩
def RX6 : String := "ShareStreamsModel"
def TX6 : u_T := fun k => match k with
  | 0 => ("ShareStreamsModel", "all", "[I", true)
  | 1 => ("ShareStreamsModel", "kept", "[I", true)
  | 2 => ("ShareStreamsModel", "history", "[I", true)
  | 3 => ("ShareStreamsModel", "historyLong", "I", false)
  | 4 => ("ShareStreamsModel", "snapshot", "[I", true)
  | 5 => ("ShareStreamsModel", "isTaken", "I", false)
  | 6 => ("ShareStreamsModel", "words", "[J", true)
  | 7 => ("ShareStreamsModel", "bits", "[I", true)
  | 8 => ("ShareStreamsModel", "register", "[I", true)
  | 9 => ("ShareStreamsModel", "exact", "[I", true)
  | 10 => ("ShareStreamsModel", "text", "[I", true)
  | 11 => ("ShareStreamsModel", "textLong", "I", false)
  | 12 => ("ShareStreamsModel", "spot", "I", false)
  | 13 => ("ShareStreamsModel", "read", "[I", true)
  | 14 => ("ShareStreamsModel", "readMany", "I", false)
  | 15 => ("ShareStreamsModel", "number", "I", false)
  | 16 => ("ShareStreamsModel", "deep", "[I", true)
  | _ => ("ShareStreamsModel", "sources", "[I", true)
def tyX6 : Nat → FieldType := fun k => match k with
  | 0 => .array .int
  | 1 => .array .int
  | 2 => .array .int
  | 3 => .int
  | 4 => .array .int
  | 5 => .int
  | 6 => .array .long
  | 7 => .array .int
  | 8 => .array .int
  | 9 => .array .int
  | 10 => .array .int
  | 11 => .int
  | 12 => .int
  | 13 => .array .int
  | 14 => .int
  | 15 => .int
  | 16 => .array .int
  | _ => .array .int
abbrev wsX60 : List Cond := u_ws RX6 TX6 18
theorem nmX6 : ∀ a, a < 18 → ∀ b, b < 18 → a ≠ b → (TX6 a).2.1 ≠ (TX6 b).2.1 := by decide +kernel
theorem tyX6_ok : ∀ k, k < 18 → parseFieldDescriptor (TX6 k).2.2.1 = some (tyX6 k) := by decide +kernel
abbrev cX6_init : ByteArray := prog_8_method_1_code
def yX6_init : MethodName := ⟨RX6, "<init>", "()V"⟩
abbrev cX6_in : ByteArray := prog_8_method_3_code
def yX6_in : MethodName := ⟨RX6, "in", "(JJJ)Z"⟩
abbrev cX6_remember : ByteArray := prog_8_method_4_code
def yX6_remember : MethodName := ⟨RX6, "remember", "()V"⟩
abbrev cX6_acted : ByteArray := prog_8_method_5_code
def yX6_acted : MethodName := ⟨RX6, "acted", "(I)I"⟩
abbrev cX6_isLine : ByteArray := prog_8_method_6_code
def yX6_isLine : MethodName := ⟨RX6, "isLine", "(I)Z"⟩
abbrev cX6_of : ByteArray := prog_8_method_7_code
def yX6_of : MethodName := ⟨RX6, "of", "(II)I"⟩
abbrev cX6_linesBy : ByteArray := prog_8_method_8_code
def yX6_linesBy : MethodName := ⟨RX6, "linesBy", "(I)I"⟩
abbrev cX6_puts : ByteArray := prog_8_method_9_code
def yX6_puts : MethodName := ⟨RX6, "puts", "(IIII)V"⟩
abbrev cX6_adds : ByteArray := prog_8_method_10_code
def yX6_adds : MethodName := ⟨RX6, "adds", "(IIII)I"⟩
abbrev cX6_source : ByteArray := prog_8_method_11_code
def yX6_source : MethodName := ⟨RX6, "source", "(II)I"⟩
abbrev cX6_gate : ByteArray := prog_8_method_12_code
def yX6_gate : MethodName := ⟨RX6, "gate", "(III)I"⟩
abbrev cX6_choose : ByteArray := prog_8_method_13_code
def yX6_choose : MethodName := ⟨RX6, "choose", "(III)I"⟩
abbrev cX6_turn : ByteArray := prog_8_method_14_code
def yX6_turn : MethodName := ⟨RX6, "turn", "(I)I"⟩
abbrev cX6_delay : ByteArray := prog_8_method_15_code
def yX6_delay : MethodName := ⟨RX6, "delay", "(II)I"⟩
abbrev cX6_reseed : ByteArray := prog_8_method_16_code
def yX6_reseed : MethodName := ⟨RX6, "reseed", "(III)I"⟩
abbrev cX6_removeLast : ByteArray := prog_8_method_17_code
def yX6_removeLast : MethodName := ⟨RX6, "removeLast", "()I"⟩
abbrev cX6_setLength : ByteArray := prog_8_method_18_code
def yX6_setLength : MethodName := ⟨RX6, "setLength", "(I)I"⟩
abbrev cX6_bitAt : ByteArray := prog_8_method_19_code
def yX6_bitAt : MethodName := ⟨RX6, "bitAt", "(II)I"⟩
abbrev cX6_goesOn : ByteArray := prog_8_method_20_code
def yX6_goesOn : MethodName := ⟨RX6, "goesOn", "(I)I"⟩
abbrev cX6_bitOf : ByteArray := prog_8_method_21_code
def yX6_bitOf : MethodName := ⟨RX6, "bitOf", "(II)I"⟩
abbrev cX6_lays : ByteArray := prog_8_method_22_code
def yX6_lays : MethodName := ⟨RX6, "lays", "(II)V"⟩
abbrev cX6_countOf : ByteArray := prog_8_method_23_code
def yX6_countOf : MethodName := ⟨RX6, "countOf", "(II)I"⟩
abbrev cX6_findsExact : ByteArray := prog_8_method_24_code
def yX6_findsExact : MethodName := ⟨RX6, "findsExact", "(I)V"⟩
abbrev cX6_apart : ByteArray := prog_8_method_25_code
def yX6_apart : MethodName := ⟨RX6, "apart", "(II)I"⟩
abbrev cX6_errorBy : ByteArray := prog_8_method_26_code
def yX6_errorBy : MethodName := ⟨RX6, "errorBy", "(III)I"⟩
abbrev cX6_errorOf : ByteArray := prog_8_method_27_code
def yX6_errorOf : MethodName := ⟨RX6, "errorOf", "(II)I"⟩
abbrev cX6_type : ByteArray := prog_8_method_28_code
def yX6_type : MethodName := ⟨RX6, "type", "(C)I"⟩
abbrev cX6_clearText : ByteArray := prog_8_method_29_code
def yX6_clearText : MethodName := ⟨RX6, "clearText", "()I"⟩
abbrev cX6_sizeOf : ByteArray := prog_8_method_30_code
def yX6_sizeOf : MethodName := ⟨RX6, "sizeOf", "(J)I"⟩
abbrev cX6_likeness : ByteArray := prog_8_method_31_code
def yX6_likeness : MethodName := ⟨RX6, "likeness", "(J)I"⟩
abbrev cX6_readsWord : ByteArray := prog_8_method_32_code
def yX6_readsWord : MethodName := ⟨RX6, "readsWord", "()I"⟩
abbrev cX6_isHere : ByteArray := prog_8_method_33_code
def yX6_isHere : MethodName := ⟨RX6, "isHere", "(II)Z"⟩
abbrev cX6_takes : ByteArray := prog_8_method_34_code
def yX6_takes : MethodName := ⟨RX6, "takes", "(I)Z"⟩
abbrev cX6_readsNumber : ByteArray := prog_8_method_35_code
def yX6_readsNumber : MethodName := ⟨RX6, "readsNumber", "(II)Z"⟩
abbrev cX6_readsPart : ByteArray := prog_8_method_36_code
def yX6_readsPart : MethodName := ⟨RX6, "readsPart", "(II)Z"⟩
abbrev cX6_readsLine : ByteArray := prog_8_method_37_code
def yX6_readsLine : MethodName := ⟨RX6, "readsLine", "()Z"⟩
abbrev cX6_fault : ByteArray := prog_8_method_38_code
def yX6_fault : MethodName := ⟨RX6, "fault", "()I"⟩
abbrev cX6_isAhead : ByteArray := prog_8_method_39_code
def yX6_isAhead : MethodName := ⟨RX6, "isAhead", "(I)Z"⟩
abbrev cX6_readCircuit : ByteArray := prog_8_method_40_code
def yX6_readCircuit : MethodName := ⟨RX6, "readCircuit", "()I"⟩
abbrev cX6_undo : ByteArray := prog_8_method_41_code
def yX6_undo : MethodName := ⟨RX6, "undo", "()I"⟩
abbrev cX6_keep : ByteArray := prog_8_method_42_code
def yX6_keep : MethodName := ⟨RX6, "keep", "()I"⟩
abbrev cX6_restore : ByteArray := prog_8_method_43_code
def yX6_restore : MethodName := ⟨RX6, "restore", "()I"⟩
abbrev cX6_findsDepths : ByteArray := prog_8_method_44_code
def yX6_findsDepths : MethodName := ⟨RX6, "findsDepths", "()V"⟩
abbrev cX6_bitsOf : ByteArray := prog_8_method_45_code
def yX6_bitsOf : MethodName := ⟨RX6, "bitsOf", "(I)I"⟩
abbrev cX6_line : ByteArray := prog_8_method_46_code
def yX6_line : MethodName := ⟨RX6, "line", "(II)I"⟩
abbrev cX6_bit : ByteArray := prog_8_method_47_code
def yX6_bit : MethodName := ⟨RX6, "bit", "(II)I"⟩
abbrev cX6_overlap : ByteArray := prog_8_method_48_code
def yX6_overlap : MethodName := ⟨RX6, "overlap", "(II)I"⟩
abbrev cX6_errorAt : ByteArray := prog_8_method_49_code
def yX6_errorAt : MethodName := ⟨RX6, "errorAt", "(II)I"⟩
abbrev cX6_settles : ByteArray := prog_8_method_50_code
def yX6_settles : MethodName := ⟨RX6, "settles", "(II)I"⟩
abbrev cX6_bestSeed : ByteArray := prog_8_method_51_code
def yX6_bestSeed : MethodName := ⟨RX6, "bestSeed", "(III)I"⟩
abbrev cX6_unlike : ByteArray := prog_8_method_52_code
def yX6_unlike : MethodName := ⟨RX6, "unlike", "(I)I"⟩
abbrev cX6_manySources : ByteArray := prog_8_method_53_code
def yX6_manySources : MethodName := ⟨RX6, "manySources", "()I"⟩
abbrev cX6_errors : ByteArray := prog_8_method_54_code
def yX6_errors : MethodName := ⟨RX6, "errors", "()I"⟩
abbrev cX6_worst : ByteArray := prog_8_method_55_code
def yX6_worst : MethodName := ⟨RX6, "worst", "()I"⟩
abbrev cX6_deepest : ByteArray := prog_8_method_56_code
def yX6_deepest : MethodName := ⟨RX6, "deepest", "()I"⟩
abbrev cX6_count : ByteArray := prog_8_method_57_code
def yX6_count : MethodName := ⟨RX6, "count", "(I)I"⟩
def RJ6 : String := "java/lang/Integer"
def TJ6 : u_T := fun k => match k with
  | _ => ("", "", "", false)
def tyJ6 : Nat → FieldType := fun k => match k with
  | _ => .int
abbrev wsJ60 : List Cond := u_ws RJ6 TJ6 0
theorem nmJ6 : ∀ a, a < 0 → ∀ b, b < 0 → a ≠ b → (TJ6 a).2.1 ≠ (TJ6 b).2.1 := by decide +kernel
theorem tyJ6_ok : ∀ k, k < 0 → parseFieldDescriptor (TJ6 k).2.2.1 = some (tyJ6 k) := by decide +kernel
abbrev cJ6_bitCount_0f7a4 : ByteArray := prog_9_method_49_code
def yJ6_bitCount_0f7a4 : MethodName := ⟨RJ6, "bitCount", "(I)I"⟩
def RJ13 : String := "java/lang/Long"
def TJ13 : u_T := fun k => match k with
  | _ => ("", "", "", false)
def tyJ13 : Nat → FieldType := fun k => match k with
  | _ => .int
abbrev wsJ130 : List Cond := u_ws RJ13 TJ13 0
theorem nmJ13 : ∀ a, a < 0 → ∀ b, b < 0 → a ≠ b → (TJ13 a).2.1 ≠ (TJ13 b).2.1 := by decide +kernel
theorem tyJ13_ok : ∀ k, k < 0 → parseFieldDescriptor (TJ13 k).2.2.1 = some (tyJ13 k) := by decide +kernel
abbrev cJ13_bitCount_95d88 : ByteArray := prog_10_method_50_code
def yJ13_bitCount_95d88 : MethodName := ⟨RJ13, "bitCount", "(J)I"⟩
def RJ9 : String := "java/lang/Math"
def TJ9 : u_T := fun k => match k with
  | _ => ("", "", "", false)
def tyJ9 : Nat → FieldType := fun k => match k with
  | _ => .int
abbrev wsJ90 : List Cond := u_ws RJ9 TJ9 0
theorem nmJ9 : ∀ a, a < 0 → ∀ b, b < 0 → a ≠ b → (TJ9 a).2.1 ≠ (TJ9 b).2.1 := by decide +kernel
theorem tyJ9_ok : ∀ k, k < 0 → parseFieldDescriptor (TJ9 k).2.2.1 = some (tyJ9 k) := by decide +kernel
abbrev cJ9_floorMod_7cf53 : ByteArray := prog_11_method_50_code
def yJ9_floorMod_7cf53 : MethodName := ⟨RJ9, "floorMod", "(II)I"⟩
abbrev cJ9_abs_0f7a4 : ByteArray := prog_11_method_59_code
def yJ9_abs_0f7a4 : MethodName := ⟨RJ9, "abs", "(I)I"⟩
abbrev cJ9_max_7cf53 : ByteArray := prog_11_method_65_code
def yJ9_max_7cf53 : MethodName := ⟨RJ9, "max", "(II)I"⟩
def RJ0 : String := "java/lang/String"
def TJ0 : u_T := fun k => match k with
  | _ => ("", "", "", false)
def tyJ0 : Nat → FieldType := fun k => match k with
  | _ => .int
abbrev wsJ00 : List Cond := u_ws RJ0 TJ0 0
theorem nmJ0 : ∀ a, a < 0 → ∀ b, b < 0 → a ≠ b → (TJ0 a).2.1 ≠ (TJ0 b).2.1 := by decide +kernel
theorem tyJ0_ok : ∀ k, k < 0 → parseFieldDescriptor (TJ0 k).2.2.1 = some (tyJ0 k) := by decide +kernel
abbrev cJ0_length_8abf5 : ByteArray := prog_12_method_54_code
def yJ0_length_8abf5 : MethodName := ⟨RJ0, "length", "()I"⟩
abbrev cJ0_isEmpty_aae02 : ByteArray := prog_12_method_55_code
def yJ0_isEmpty_aae02 : MethodName := ⟨RJ0, "isEmpty", "()Z"⟩
abbrev cJ0_charAt_5068e : ByteArray := prog_12_method_56_code
def yJ0_charAt_5068e : MethodName := ⟨RJ0, "charAt", "(I)C"⟩
abbrev cJ0_coder_7d493 : ByteArray := prog_12_method_152_code
def yJ0_coder_7d493 : MethodName := ⟨RJ0, "coder", "()B"⟩
abbrev cJ0_isLatin1_aae02 : ByteArray := prog_12_method_154_code
def yJ0_isLatin1_aae02 : MethodName := ⟨RJ0, "isLatin1", "()Z"⟩
abbrev cJ0_checkIndex_df160 : ByteArray := prog_12_method_155_code
def yJ0_checkIndex_df160 : MethodName := ⟨RJ0, "checkIndex", "(II)V"⟩
def RJ1 : String := "java/lang/StringLatin1"
def TJ1 : u_T := fun k => match k with
  | _ => ("", "", "", false)
def tyJ1 : Nat → FieldType := fun k => match k with
  | _ => .int
abbrev wsJ10 : List Cond := u_ws RJ1 TJ1 0
theorem nmJ1 : ∀ a, a < 0 → ∀ b, b < 0 → a ≠ b → (TJ1 a).2.1 ≠ (TJ1 b).2.1 := by decide +kernel
theorem tyJ1_ok : ∀ k, k < 0 → parseFieldDescriptor (TJ1 k).2.2.1 = some (tyJ1 k) := by decide +kernel
abbrev cJ1_charAt_3b067 : ByteArray := prog_13_method_2_code
def yJ1_charAt_3b067 : MethodName := ⟨RJ1, "charAt", "([BI)C"⟩
def RJ2 : String := "java/lang/StringUTF16"
def TJ2 : u_T := fun k => match k with
  | _ => ("", "", "", false)
def tyJ2 : Nat → FieldType := fun k => match k with
  | _ => .int
abbrev wsJ20 : List Cond := u_ws RJ2 TJ2 0
theorem nmJ2 : ∀ a, a < 0 → ∀ b, b < 0 → a ≠ b → (TJ2 a).2.1 ≠ (TJ2 b).2.1 := by decide +kernel
theorem tyJ2_ok : ∀ k, k < 0 → parseFieldDescriptor (TJ2 k).2.2.1 = some (tyJ2 k) := by decide +kernel
abbrev cJ2_getChar_3b067 : ByteArray := prog_14_method_5_code
def yJ2_getChar_3b067 : MethodName := ⟨RJ2, "getChar", "([BI)C"⟩
abbrev cJ2_length_9d52b : ByteArray := prog_14_method_6_code
def yJ2_length_9d52b : MethodName := ⟨RJ2, "length", "([B)I"⟩
abbrev cJ2_charAt_3b067 : ByteArray := prog_14_method_83_code
def yJ2_charAt_3b067 : MethodName := ⟨RJ2, "charAt", "([BI)C"⟩
abbrev cJ2_checkIndex_2214a : ByteArray := prog_14_method_91_code
def yJ2_checkIndex_2214a : MethodName := ⟨RJ2, "checkIndex", "(I[B)V"⟩
def RJ3 : String := "jdk/internal/util/Preconditions"
def TJ3 : u_T := fun k => match k with
  | _ => ("", "", "", false)
def tyJ3 : Nat → FieldType := fun k => match k with
  | _ => .int
abbrev wsJ30 : List Cond := u_ws RJ3 TJ3 0
theorem nmJ3 : ∀ a, a < 0 → ∀ b, b < 0 → a ≠ b → (TJ3 a).2.1 ≠ (TJ3 b).2.1 := by decide +kernel
theorem tyJ3_ok : ∀ k, k < 0 → parseFieldDescriptor (TJ3 k).2.2.1 = some (tyJ3 k) := by decide +kernel
abbrev cJ3_checkIndex_8e157 : ByteArray := prog_15_method_11_code
def yJ3_checkIndex_8e157 : MethodName := ⟨RJ3, "checkIndex", "(IILjava/util/function/BiFunction;)I"⟩
def RL : String := "ShareStreamsLaw"
abbrev cL_law : ByteArray := code
def yL_law : MethodName := ⟨RL, "law", "([I)Z"⟩
set_option maxRecDepth 20000 in
abbrev vwCl : List vw_C := [(RX0, TX0, 4), (RX1, TX1, 3), (RX2, TX2, 3), (RX3, TX3, 3), (RX4, TX4, 1), (RX5, TX5, 8), (RX6, TX6, 18)]
/-- the words that a call carries on -/
def gW : List Cond := lw_tbl.filter goodWord
theorem gW_tbl {w : Cond} (h : w ∈ gW) : w ∈ lw_tbl := (List.mem_filter.mp h).1
theorem gW_good : ∀ w ∈ gW, goodWord w = true := fun _ h => (List.mem_filter.mp h).2
theorem gW_of {w : Cond} (h : w ∈ lw_tbl) (hg : goodWord w = true) : w ∈ gW := List.mem_filter.mpr ⟨h, hg⟩
theorem gW_t {w : Cond} (h : w ∈ tables_1) (hg : goodWord w = true) : w ∈ gW := gW_of (List.mem_append_right _ h) hg
theorem gW_all {ws : List Cond} (h : ∀ w ∈ ws, w ∈ tables_1 ∧ goodWord w = true) : ∀ w ∈ ws, w ∈ gW := fun w hw => gW_t (h w hw).1 (h w hw).2
theorem inlX0 : ∀ w ∈ wsX00, w ∈ gW := gW_all (by decide +kernel)
theorem inlX1 : ∀ w ∈ wsX10, w ∈ gW := gW_all (by decide +kernel)
theorem inlX2 : ∀ w ∈ wsX20, w ∈ gW := gW_all (by decide +kernel)
theorem inlX3 : ∀ w ∈ wsX30, w ∈ gW := gW_all (by decide +kernel)
theorem inlX4 : ∀ w ∈ wsX40, w ∈ gW := gW_all (by decide +kernel)
theorem inlX5 : ∀ w ∈ wsX50, w ∈ gW := gW_all (by decide +kernel)
theorem inlX6 : ∀ w ∈ wsX60, w ∈ gW := gW_all (by decide +kernel)
