section
-- ===== PART A: goes FIRST, ahead of the names: the tables' words, and 'selects' of the private methods out of them =====
/-- a private method of a class that the tables say can be made, by its rows of tables_1 -/
def lw_okq (q : MethodName × Nat) : Prop := (q.1.cls ≠ "java/lang/invoke/MethodHandle" ∧ q.1.cls ≠ "java/lang/invoke/VarHandle") ∧ Cond.instantiable q.1.cls q.2 ∈ tables_1 ∧ Cond.privateMethod q.1 ∈ tables_1 ∧ Cond.instanceMethod q.1 ∈ tables_1
theorem lw_p0 : lw_okq (⟨"ShareStreams$Bench", "sources", "()I"⟩, 4) := ⟨⟨by decide +kernel, by decide +kernel⟩, List.mem_of_getElem? (i := 19) (by decide +kernel), List.mem_of_getElem? (i := 138) (by decide +kernel), List.mem_of_getElem? (i := 139) (by decide +kernel)⟩
theorem lw_p1 : lw_okq (⟨"ShareStreams$Bench", "kindOf", "(I)I"⟩, 4) := ⟨⟨by decide +kernel, by decide +kernel⟩, List.mem_of_getElem? (i := 19) (by decide +kernel), List.mem_of_getElem? (i := 142) (by decide +kernel), List.mem_of_getElem? (i := 143) (by decide +kernel)⟩
theorem lw_p2 : lw_okq (⟨"ShareStreams", "sumOfErrors", "()I"⟩, 8) := ⟨⟨by decide +kernel, by decide +kernel⟩, List.mem_of_getElem? (i := 11) (by decide +kernel), List.mem_of_getElem? (i := 149) (by decide +kernel), List.mem_of_getElem? (i := 150) (by decide +kernel)⟩
theorem lw_p3 : lw_okq (⟨"ShareStreams", "fillAll", "()V"⟩, 8) := ⟨⟨by decide +kernel, by decide +kernel⟩, List.mem_of_getElem? (i := 11) (by decide +kernel), List.mem_of_getElem? (i := 153) (by decide +kernel), List.mem_of_getElem? (i := 154) (by decide +kernel)⟩
theorem lw_p4 : lw_okq (⟨"ShareStreams$Figures", "workOut", "(LShareStreams$Bench;)V"⟩, 3) := ⟨⟨by decide +kernel, by decide +kernel⟩, List.mem_of_getElem? (i := 80) (by decide +kernel), List.mem_of_getElem? (i := 157) (by decide +kernel), List.mem_of_getElem? (i := 158) (by decide +kernel)⟩
theorem lw_p5 : lw_okq (⟨"ShareStreams$Figures", "exactShareIn", "(LShareStreams$Bench;I)I"⟩, 3) := ⟨⟨by decide +kernel, by decide +kernel⟩, List.mem_of_getElem? (i := 80) (by decide +kernel), List.mem_of_getElem? (i := 161) (by decide +kernel), List.mem_of_getElem? (i := 162) (by decide +kernel)⟩
theorem lw_p6 : lw_okq (⟨"ShareStreams$Bench", "numberOf", "(II)I"⟩, 4) := ⟨⟨by decide +kernel, by decide +kernel⟩, List.mem_of_getElem? (i := 19) (by decide +kernel), List.mem_of_getElem? (i := 165) (by decide +kernel), List.mem_of_getElem? (i := 166) (by decide +kernel)⟩
theorem lw_p7 : lw_okq (⟨"ShareStreams$Figures", "exactShareOf", "(I)I"⟩, 3) := ⟨⟨by decide +kernel, by decide +kernel⟩, List.mem_of_getElem? (i := 80) (by decide +kernel), List.mem_of_getElem? (i := 169) (by decide +kernel), List.mem_of_getElem? (i := 170) (by decide +kernel)⟩
theorem lw_p8 : lw_okq (⟨"ShareStreams$Figures", "depthIn", "(LShareStreams$Bench;I)I"⟩, 3) := ⟨⟨by decide +kernel, by decide +kernel⟩, List.mem_of_getElem? (i := 80) (by decide +kernel), List.mem_of_getElem? (i := 186) (by decide +kernel), List.mem_of_getElem? (i := 187) (by decide +kernel)⟩
theorem lw_p9 : lw_okq (⟨"ShareStreams$Figures", "depthOf", "(I)I"⟩, 3) := ⟨⟨by decide +kernel, by decide +kernel⟩, List.mem_of_getElem? (i := 80) (by decide +kernel), List.mem_of_getElem? (i := 196) (by decide +kernel), List.mem_of_getElem? (i := 197) (by decide +kernel)⟩
theorem lw_p10 : lw_okq (⟨"ShareStreams$Figures", "originsIn", "(LShareStreams$Bench;I)I"⟩, 3) := ⟨⟨by decide +kernel, by decide +kernel⟩, List.mem_of_getElem? (i := 80) (by decide +kernel), List.mem_of_getElem? (i := 203) (by decide +kernel), List.mem_of_getElem? (i := 204) (by decide +kernel)⟩
theorem lw_p11 : lw_okq (⟨"ShareStreams$Streams", "fill", "(LShareStreams$Bench;II)V"⟩, 1) := ⟨⟨by decide +kernel, by decide +kernel⟩, List.mem_of_getElem? (i := 96) (by decide +kernel), List.mem_of_getElem? (i := 207) (by decide +kernel), List.mem_of_getElem? (i := 208) (by decide +kernel)⟩
theorem lw_p12 : lw_okq (⟨"ShareStreams$Streams", "fillRow", "(LShareStreams$Bench;II)V"⟩, 1) := ⟨⟨by decide +kernel, by decide +kernel⟩, List.mem_of_getElem? (i := 96) (by decide +kernel), List.mem_of_getElem? (i := 211) (by decide +kernel), List.mem_of_getElem? (i := 212) (by decide +kernel)⟩
theorem lw_p13 : lw_okq (⟨"ShareStreams$Streams", "fillSource", "(IIII)V"⟩, 1) := ⟨⟨by decide +kernel, by decide +kernel⟩, List.mem_of_getElem? (i := 96) (by decide +kernel), List.mem_of_getElem? (i := 217) (by decide +kernel), List.mem_of_getElem? (i := 218) (by decide +kernel)⟩
theorem lw_p14 : lw_okq (⟨"ShareStreams$Streams", "setWord", "(IIJ)V"⟩, 1) := ⟨⟨by decide +kernel, by decide +kernel⟩, List.mem_of_getElem? (i := 96) (by decide +kernel), List.mem_of_getElem? (i := 224) (by decide +kernel), List.mem_of_getElem? (i := 225) (by decide +kernel)⟩
theorem lw_p15 : lw_okq (⟨"ShareStreams$Streams", "madeWord", "(LShareStreams$Bench;II)J"⟩, 1) := ⟨⟨by decide +kernel, by decide +kernel⟩, List.mem_of_getElem? (i := 96) (by decide +kernel), List.mem_of_getElem? (i := 228) (by decide +kernel), List.mem_of_getElem? (i := 229) (by decide +kernel)⟩
def lw_privs_1 : List (MethodName × Nat) := [(⟨"ShareStreams$Bench", "sources", "()I"⟩, 4), (⟨"ShareStreams$Bench", "kindOf", "(I)I"⟩, 4), (⟨"ShareStreams", "sumOfErrors", "()I"⟩, 8), (⟨"ShareStreams", "fillAll", "()V"⟩, 8), (⟨"ShareStreams$Figures", "workOut", "(LShareStreams$Bench;)V"⟩, 3), (⟨"ShareStreams$Figures", "exactShareIn", "(LShareStreams$Bench;I)I"⟩, 3), (⟨"ShareStreams$Bench", "numberOf", "(II)I"⟩, 4), (⟨"ShareStreams$Figures", "exactShareOf", "(I)I"⟩, 3), (⟨"ShareStreams$Figures", "depthIn", "(LShareStreams$Bench;I)I"⟩, 3), (⟨"ShareStreams$Figures", "depthOf", "(I)I"⟩, 3), (⟨"ShareStreams$Figures", "originsIn", "(LShareStreams$Bench;I)I"⟩, 3), (⟨"ShareStreams$Streams", "fill", "(LShareStreams$Bench;II)V"⟩, 1), (⟨"ShareStreams$Streams", "fillRow", "(LShareStreams$Bench;II)V"⟩, 1), (⟨"ShareStreams$Streams", "fillSource", "(IIII)V"⟩, 1), (⟨"ShareStreams$Streams", "setWord", "(IIJ)V"⟩, 1), (⟨"ShareStreams$Streams", "madeWord", "(LShareStreams$Bench;II)J"⟩, 1)]
theorem lw_r1 : ∀ q ∈ lw_privs_1, lw_okq q := List.forall_mem_cons.mpr ⟨lw_p0, List.forall_mem_cons.mpr ⟨lw_p1, List.forall_mem_cons.mpr ⟨lw_p2, List.forall_mem_cons.mpr ⟨lw_p3, List.forall_mem_cons.mpr ⟨lw_p4, List.forall_mem_cons.mpr ⟨lw_p5, List.forall_mem_cons.mpr ⟨lw_p6, List.forall_mem_cons.mpr ⟨lw_p7, List.forall_mem_cons.mpr ⟨lw_p8, List.forall_mem_cons.mpr ⟨lw_p9, List.forall_mem_cons.mpr ⟨lw_p10, List.forall_mem_cons.mpr ⟨lw_p11, List.forall_mem_cons.mpr ⟨lw_p12, List.forall_mem_cons.mpr ⟨lw_p13, List.forall_mem_cons.mpr ⟨lw_p14, List.forall_mem_cons.mpr ⟨lw_p15, fun _ h => absurd h List.not_mem_nil⟩⟩⟩⟩⟩⟩⟩⟩⟩⟩⟩⟩⟩⟩⟩⟩
theorem lw_p16 : lw_okq (⟨"ShareStreams$Streams", "wordAt", "(II)J"⟩, 1) := ⟨⟨by decide +kernel, by decide +kernel⟩, List.mem_of_getElem? (i := 96) (by decide +kernel), List.mem_of_getElem? (i := 232) (by decide +kernel), List.mem_of_getElem? (i := 233) (by decide +kernel)⟩
theorem lw_p17 : lw_okq (⟨"ShareStreams", "errorOfFilled", "(II)I"⟩, 8) := ⟨⟨by decide +kernel, by decide +kernel⟩, List.mem_of_getElem? (i := 11) (by decide +kernel), List.mem_of_getElem? (i := 237) (by decide +kernel), List.mem_of_getElem? (i := 238) (by decide +kernel)⟩
theorem lw_p18 : lw_okq (⟨"ShareStreams$Streams", "onesIn", "(II)I"⟩, 1) := ⟨⟨by decide +kernel, by decide +kernel⟩, List.mem_of_getElem? (i := 96) (by decide +kernel), List.mem_of_getElem? (i := 241) (by decide +kernel), List.mem_of_getElem? (i := 242) (by decide +kernel)⟩
theorem lw_p19 : lw_okq (⟨"ShareStreams$Streams", "onesInBoth", "(III)I"⟩, 1) := ⟨⟨by decide +kernel, by decide +kernel⟩, List.mem_of_getElem? (i := 96) (by decide +kernel), List.mem_of_getElem? (i := 245) (by decide +kernel), List.mem_of_getElem? (i := 246) (by decide +kernel)⟩
theorem lw_p20 : lw_okq (⟨"ShareStreams", "errorOfCount", "(III)I"⟩, 8) := ⟨⟨by decide +kernel, by decide +kernel⟩, List.mem_of_getElem? (i := 11) (by decide +kernel), List.mem_of_getElem? (i := 255) (by decide +kernel), List.mem_of_getElem? (i := 256) (by decide +kernel)⟩
theorem lw_p21 : lw_okq (⟨"ShareStreams", "lineWithGreatestError", "()I"⟩, 8) := ⟨⟨by decide +kernel, by decide +kernel⟩, List.mem_of_getElem? (i := 11) (by decide +kernel), List.mem_of_getElem? (i := 267) (by decide +kernel), List.mem_of_getElem? (i := 268) (by decide +kernel)⟩
theorem lw_p22 : lw_okq (⟨"ShareStreams$Figures", "greatestDepth", "(I)I"⟩, 3) := ⟨⟨by decide +kernel, by decide +kernel⟩, List.mem_of_getElem? (i := 80) (by decide +kernel), List.mem_of_getElem? (i := 272) (by decide +kernel), List.mem_of_getElem? (i := 273) (by decide +kernel)⟩
theorem lw_p23 : lw_okq (⟨"ShareStreams$History", "push", "(LShareStreams$Bench;)V"⟩, 3) := ⟨⟨by decide +kernel, by decide +kernel⟩, List.mem_of_getElem? (i := 42) (by decide +kernel), List.mem_of_getElem? (i := 292) (by decide +kernel), List.mem_of_getElem? (i := 293) (by decide +kernel)⟩
theorem lw_p24 : lw_okq (⟨"ShareStreams$History", "stateAt", "(I)LShareStreams$Bench;"⟩, 3) := ⟨⟨by decide +kernel, by decide +kernel⟩, List.mem_of_getElem? (i := 42) (by decide +kernel), List.mem_of_getElem? (i := 296) (by decide +kernel), List.mem_of_getElem? (i := 297) (by decide +kernel)⟩
theorem lw_p25 : lw_okq (⟨"ShareStreams$Bench", "copyFrom", "(LShareStreams$Bench;)V"⟩, 4) := ⟨⟨by decide +kernel, by decide +kernel⟩, List.mem_of_getElem? (i := 19) (by decide +kernel), List.mem_of_getElem? (i := 303) (by decide +kernel), List.mem_of_getElem? (i := 304) (by decide +kernel)⟩
theorem lw_p26 : lw_okq (⟨"ShareStreams$Bench", "addAll", "(LShareStreams$Bench;)V"⟩, 4) := ⟨⟨by decide +kernel, by decide +kernel⟩, List.mem_of_getElem? (i := 19) (by decide +kernel), List.mem_of_getElem? (i := 307) (by decide +kernel), List.mem_of_getElem? (i := 308) (by decide +kernel)⟩
theorem lw_p27 : lw_okq (⟨"ShareStreams$Bench", "add", "(IIII)V"⟩, 4) := ⟨⟨by decide +kernel, by decide +kernel⟩, List.mem_of_getElem? (i := 19) (by decide +kernel), List.mem_of_getElem? (i := 312) (by decide +kernel), List.mem_of_getElem? (i := 313) (by decide +kernel)⟩
theorem lw_p28 : lw_okq (⟨"ShareStreams$Bench", "setNumber", "(III)V"⟩, 4) := ⟨⟨by decide +kernel, by decide +kernel⟩, List.mem_of_getElem? (i := 19) (by decide +kernel), List.mem_of_getElem? (i := 317) (by decide +kernel), List.mem_of_getElem? (i := 318) (by decide +kernel)⟩
theorem lw_p29 : lw_okq (⟨"ShareStreams$Bench", "dropLast", "()V"⟩, 4) := ⟨⟨by decide +kernel, by decide +kernel⟩, List.mem_of_getElem? (i := 19) (by decide +kernel), List.mem_of_getElem? (i := 321) (by decide +kernel), List.mem_of_getElem? (i := 322) (by decide +kernel)⟩
theorem lw_p30 : lw_okq (⟨"ShareStreams", "addLine", "(IIII)I"⟩, 8) := ⟨⟨by decide +kernel, by decide +kernel⟩, List.mem_of_getElem? (i := 11) (by decide +kernel), List.mem_of_getElem? (i := 335) (by decide +kernel), List.mem_of_getElem? (i := 336) (by decide +kernel)⟩
theorem lw_p31 : lw_okq (⟨"ShareStreams$Bench", "has", "(I)Z"⟩, 4) := ⟨⟨by decide +kernel, by decide +kernel⟩, List.mem_of_getElem? (i := 19) (by decide +kernel), List.mem_of_getElem? (i := 345) (by decide +kernel), List.mem_of_getElem? (i := 346) (by decide +kernel)⟩
def lw_privs_2 : List (MethodName × Nat) := [(⟨"ShareStreams$Streams", "wordAt", "(II)J"⟩, 1), (⟨"ShareStreams", "errorOfFilled", "(II)I"⟩, 8), (⟨"ShareStreams$Streams", "onesIn", "(II)I"⟩, 1), (⟨"ShareStreams$Streams", "onesInBoth", "(III)I"⟩, 1), (⟨"ShareStreams", "errorOfCount", "(III)I"⟩, 8), (⟨"ShareStreams", "lineWithGreatestError", "()I"⟩, 8), (⟨"ShareStreams$Figures", "greatestDepth", "(I)I"⟩, 3), (⟨"ShareStreams$History", "push", "(LShareStreams$Bench;)V"⟩, 3), (⟨"ShareStreams$History", "stateAt", "(I)LShareStreams$Bench;"⟩, 3), (⟨"ShareStreams$Bench", "copyFrom", "(LShareStreams$Bench;)V"⟩, 4), (⟨"ShareStreams$Bench", "addAll", "(LShareStreams$Bench;)V"⟩, 4), (⟨"ShareStreams$Bench", "add", "(IIII)V"⟩, 4), (⟨"ShareStreams$Bench", "setNumber", "(III)V"⟩, 4), (⟨"ShareStreams$Bench", "dropLast", "()V"⟩, 4), (⟨"ShareStreams", "addLine", "(IIII)I"⟩, 8), (⟨"ShareStreams$Bench", "has", "(I)Z"⟩, 4)]
theorem lw_r2 : ∀ q ∈ lw_privs_2, lw_okq q := List.forall_mem_cons.mpr ⟨lw_p16, List.forall_mem_cons.mpr ⟨lw_p17, List.forall_mem_cons.mpr ⟨lw_p18, List.forall_mem_cons.mpr ⟨lw_p19, List.forall_mem_cons.mpr ⟨lw_p20, List.forall_mem_cons.mpr ⟨lw_p21, List.forall_mem_cons.mpr ⟨lw_p22, List.forall_mem_cons.mpr ⟨lw_p23, List.forall_mem_cons.mpr ⟨lw_p24, List.forall_mem_cons.mpr ⟨lw_p25, List.forall_mem_cons.mpr ⟨lw_p26, List.forall_mem_cons.mpr ⟨lw_p27, List.forall_mem_cons.mpr ⟨lw_p28, List.forall_mem_cons.mpr ⟨lw_p29, List.forall_mem_cons.mpr ⟨lw_p30, List.forall_mem_cons.mpr ⟨lw_p31, fun _ h => absurd h List.not_mem_nil⟩⟩⟩⟩⟩⟩⟩⟩⟩⟩⟩⟩⟩⟩⟩⟩
theorem lw_p32 : lw_okq (⟨"ShareStreams", "onesOver", "(II)I"⟩, 8) := ⟨⟨by decide +kernel, by decide +kernel⟩, List.mem_of_getElem? (i := 11) (by decide +kernel), List.mem_of_getElem? (i := 366) (by decide +kernel), List.mem_of_getElem? (i := 367) (by decide +kernel)⟩
theorem lw_p33 : lw_okq (⟨"ShareStreams", "errorOver", "(II)I"⟩, 8) := ⟨⟨by decide +kernel, by decide +kernel⟩, List.mem_of_getElem? (i := 11) (by decide +kernel), List.mem_of_getElem? (i := 370) (by decide +kernel), List.mem_of_getElem? (i := 371) (by decide +kernel)⟩
theorem lw_p34 : lw_okq (⟨"ShareStreams$Figures", "sourcesOf", "(I)I"⟩, 3) := ⟨⟨by decide +kernel, by decide +kernel⟩, List.mem_of_getElem? (i := 80) (by decide +kernel), List.mem_of_getElem? (i := 375) (by decide +kernel), List.mem_of_getElem? (i := 376) (by decide +kernel)⟩
theorem lw_p35 : lw_okq (⟨"ShareStreams$Streams", "bitAt", "(II)I"⟩, 1) := ⟨⟨by decide +kernel, by decide +kernel⟩, List.mem_of_getElem? (i := 96) (by decide +kernel), List.mem_of_getElem? (i := 389) (by decide +kernel), List.mem_of_getElem? (i := 390) (by decide +kernel)⟩
theorem lw_p36 : lw_okq (⟨"ShareStreams$Bench", "setSource", "(III)V"⟩, 4) := ⟨⟨by decide +kernel, by decide +kernel⟩, List.mem_of_getElem? (i := 19) (by decide +kernel), List.mem_of_getElem? (i := 406) (by decide +kernel), List.mem_of_getElem? (i := 407) (by decide +kernel)⟩
theorem lw_p37 : lw_okq (⟨"ShareStreams", "lastLengthBeyond", "(II)I"⟩, 8) := ⟨⟨by decide +kernel, by decide +kernel⟩, List.mem_of_getElem? (i := 11) (by decide +kernel), List.mem_of_getElem? (i := 428) (by decide +kernel), List.mem_of_getElem? (i := 429) (by decide +kernel)⟩
def lw_privs_3 : List (MethodName × Nat) := [(⟨"ShareStreams", "onesOver", "(II)I"⟩, 8), (⟨"ShareStreams", "errorOver", "(II)I"⟩, 8), (⟨"ShareStreams$Figures", "sourcesOf", "(I)I"⟩, 3), (⟨"ShareStreams$Streams", "bitAt", "(II)I"⟩, 1), (⟨"ShareStreams$Bench", "setSource", "(III)V"⟩, 4), (⟨"ShareStreams", "lastLengthBeyond", "(II)I"⟩, 8)]
theorem lw_r3 : ∀ q ∈ lw_privs_3, lw_okq q := List.forall_mem_cons.mpr ⟨lw_p32, List.forall_mem_cons.mpr ⟨lw_p33, List.forall_mem_cons.mpr ⟨lw_p34, List.forall_mem_cons.mpr ⟨lw_p35, List.forall_mem_cons.mpr ⟨lw_p36, List.forall_mem_cons.mpr ⟨lw_p37, fun _ h => absurd h List.not_mem_nil⟩⟩⟩⟩⟩⟩
def lw_privs : List (MethodName × Nat) := lw_privs_1 ++ (lw_privs_2 ++ (lw_privs_3))
def lw_tbl : List Cond := k2_sels lw_privs ++ tables_1
theorem lw_privs_ok : ∀ q ∈ lw_privs, lw_okq q := by
  show ∀ q ∈ lw_privs_1 ++ (lw_privs_2 ++ (lw_privs_3)), lw_okq q
  exact List.forall_mem_append.mpr ⟨lw_r1, List.forall_mem_append.mpr ⟨lw_r2, lw_r3⟩⟩
-- ===== end of PART A; then your names; then what follows =====
/-! ===== BEGIN words of one list among another's, by their places ===== -/
theorem goodIn_r {big : List Cond} (ws : List Cond) (ps : List Nat) (hp : ws = ps.filterMap (fun i => big[i]?)) (h : ws.all goodWord = true) : GoodIn big ws := by
  intro w hw
  have h1 := List.all_eq_true.mp h w hw
  rw [hp] at hw
  obtain ⟨i, -, hi⟩ := List.mem_filterMap.mp hw
  have hm : w ∈ big := by first | exact List.mem_of_getElem? hi | exact List.getElem?_mem hi
  exact ⟨hm, good_of_word h1⟩
theorem goodIn_app {big a b : List Cond} (ha : GoodIn big a) (hb : GoodIn big b) : GoodIn big (a ++ b) := fun w h => (List.mem_append.mp h).elim (ha w) (hb w)
theorem goodIn_ca {big a b : List Cond} {c : Cond} (ha : GoodIn big (c :: a)) (hb : GoodIn big b) : GoodIn big (c :: (a ++ b)) := fun w h => (List.mem_cons.mp h).elim (fun e => ha w (List.mem_cons.mpr (Or.inl e))) (fun h => (List.mem_append.mp h).elim (fun h => ha w (List.mem_cons.mpr (Or.inr h))) (hb w))
theorem goodIn_sub {big ws : List Cond} (hm : ∀ w ∈ ws, w ∈ big) (h : ws.all goodWord = true) : GoodIn big ws := fun w hw => ⟨hm w hw, good_of_word (List.all_eq_true.mp h w hw)⟩
/-! ===== END ===== -/

def RX0 : String := "ShareStreams$Bench"
def TX0 : u_T := fun k => match k with
  | 0 => ("ShareStreams$Bench", "length", "I", false)
  | 1 => ("ShareStreams$Bench", "size", "I", false)
  | 2 => ("ShareStreams$Bench", "kinds", "[I", true)
  | _ => ("ShareStreams$Bench", "numbers", "[I", true)
def tyX0 : Nat → FieldType := fun k => match k with
  | 0 => .int
  | 1 => .int
  | 2 => .array .int
  | _ => .array .int
abbrev wsX00 : List Cond := u_ws RX0 TX0 4
theorem nmX0 : ∀ a, a < 4 → ∀ b, b < 4 → a ≠ b → (TX0 a).2.1 ≠ (TX0 b).2.1 := by decide +kernel
theorem tyX0_ok : ∀ k, k < 4 → parseFieldDescriptor (TX0 k).2.2.1 = some (tyX0 k) := by decide +kernel
abbrev cX0_init : ByteArray := prog_2_method_1_code
def yX0_init : MethodName := ⟨RX0, "<init>", "()V"⟩
abbrev cX0_has : ByteArray := prog_2_method_2_code
def yX0_has : MethodName := ⟨RX0, "has", "(I)Z"⟩
abbrev cX0_kindOf : ByteArray := prog_2_method_3_code
def yX0_kindOf : MethodName := ⟨RX0, "kindOf", "(I)I"⟩
abbrev cX0_numberOf : ByteArray := prog_2_method_4_code
def yX0_numberOf : MethodName := ⟨RX0, "numberOf", "(II)I"⟩
abbrev cX0_setNumber : ByteArray := prog_2_method_5_code
def yX0_setNumber : MethodName := ⟨RX0, "setNumber", "(III)V"⟩
abbrev cX0_sources : ByteArray := prog_2_method_6_code
def yX0_sources : MethodName := ⟨RX0, "sources", "()I"⟩
abbrev cX0_add : ByteArray := prog_2_method_7_code
def yX0_add : MethodName := ⟨RX0, "add", "(IIII)V"⟩
abbrev cX0_addAll : ByteArray := prog_2_method_8_code
def yX0_addAll : MethodName := ⟨RX0, "addAll", "(LShareStreams$Bench;)V"⟩
abbrev cX0_setSource : ByteArray := prog_2_method_9_code
def yX0_setSource : MethodName := ⟨RX0, "setSource", "(III)V"⟩
abbrev cX0_dropLast : ByteArray := prog_2_method_10_code
def yX0_dropLast : MethodName := ⟨RX0, "dropLast", "()V"⟩
abbrev cX0_copyFrom : ByteArray := prog_2_method_11_code
def yX0_copyFrom : MethodName := ⟨RX0, "copyFrom", "(LShareStreams$Bench;)V"⟩
def RX1 : String := "ShareStreams$CircuitText"
def TX1 : u_T := fun k => match k with
  | 0 => ("ShareStreams$CircuitText", "characters", "[C", true)
  | 1 => ("ShareStreams$CircuitText", "size", "I", false)
  | _ => ("ShareStreams$CircuitText", "place", "I", false)
def tyX1 : Nat → FieldType := fun k => match k with
  | 0 => .array .char
  | 1 => .int
  | _ => .int
abbrev wsX10 : List Cond := u_ws RX1 TX1 3
theorem nmX1 : ∀ a, a < 3 → ∀ b, b < 3 → a ≠ b → (TX1 a).2.1 ≠ (TX1 b).2.1 := by decide +kernel
theorem tyX1_ok : ∀ k, k < 3 → parseFieldDescriptor (TX1 k).2.2.1 = some (tyX1 k) := by decide +kernel
abbrev cX1_init : ByteArray := prog_3_method_1_code
def yX1_init : MethodName := ⟨RX1, "<init>", "()V"⟩
def RX2 : String := "ShareStreams$Figures"
def TX2 : u_T := fun k => match k with
  | 0 => ("ShareStreams$Figures", "exactShares", "[I", true)
  | 1 => ("ShareStreams$Figures", "depths", "[I", true)
  | _ => ("ShareStreams$Figures", "origins", "[I", true)
def tyX2 : Nat → FieldType := fun k => match k with
  | 0 => .array .int
  | 1 => .array .int
  | _ => .array .int
abbrev wsX20 : List Cond := u_ws RX2 TX2 3
theorem nmX2 : ∀ a, a < 3 → ∀ b, b < 3 → a ≠ b → (TX2 a).2.1 ≠ (TX2 b).2.1 := by decide +kernel
theorem tyX2_ok : ∀ k, k < 3 → parseFieldDescriptor (TX2 k).2.2.1 = some (tyX2 k) := by decide +kernel
abbrev cX2_init : ByteArray := prog_4_method_1_code
def yX2_init : MethodName := ⟨RX2, "<init>", "()V"⟩
abbrev cX2_workOut : ByteArray := prog_4_method_2_code
def yX2_workOut : MethodName := ⟨RX2, "workOut", "(LShareStreams$Bench;)V"⟩
abbrev cX2_exactShareOf : ByteArray := prog_4_method_3_code
def yX2_exactShareOf : MethodName := ⟨RX2, "exactShareOf", "(I)I"⟩
abbrev cX2_depthOf : ByteArray := prog_4_method_4_code
def yX2_depthOf : MethodName := ⟨RX2, "depthOf", "(I)I"⟩
abbrev cX2_sourcesOf : ByteArray := prog_4_method_5_code
def yX2_sourcesOf : MethodName := ⟨RX2, "sourcesOf", "(I)I"⟩
abbrev cX2_greatestDepth : ByteArray := prog_4_method_6_code
def yX2_greatestDepth : MethodName := ⟨RX2, "greatestDepth", "(I)I"⟩
abbrev cX2_exactShareIn : ByteArray := prog_4_method_7_code
def yX2_exactShareIn : MethodName := ⟨RX2, "exactShareIn", "(LShareStreams$Bench;I)I"⟩
abbrev cX2_productOf : ByteArray := prog_4_method_8_code
def yX2_productOf : MethodName := ⟨RX2, "productOf", "(JJ)I"⟩
abbrev cX2_mixOf : ByteArray := prog_4_method_9_code
def yX2_mixOf : MethodName := ⟨RX2, "mixOf", "(JJJ)I"⟩
abbrev cX2_depthIn : ByteArray := prog_4_method_10_code
def yX2_depthIn : MethodName := ⟨RX2, "depthIn", "(LShareStreams$Bench;I)I"⟩
abbrev cX2_originsIn : ByteArray := prog_4_method_11_code
def yX2_originsIn : MethodName := ⟨RX2, "originsIn", "(LShareStreams$Bench;I)I"⟩
def RX3 : String := "ShareStreams$History"
def TX3 : u_T := fun k => match k with
  | 0 => ("ShareStreams$History", "states", "[LShareStreams$Bench;", true)
  | 1 => ("ShareStreams$History", "oldest", "I", false)
  | _ => ("ShareStreams$History", "size", "I", false)
def tyX3 : Nat → FieldType := fun k => match k with
  | 0 => .array (.object "ShareStreams$Bench")
  | 1 => .int
  | _ => .int
abbrev wsX30 : List Cond := u_ws RX3 TX3 3
theorem nmX3 : ∀ a, a < 3 → ∀ b, b < 3 → a ≠ b → (TX3 a).2.1 ≠ (TX3 b).2.1 := by decide +kernel
theorem tyX3_ok : ∀ k, k < 3 → parseFieldDescriptor (TX3 k).2.2.1 = some (tyX3 k) := by decide +kernel
abbrev cX3_init : ByteArray := prog_5_method_1_code
def yX3_init : MethodName := ⟨RX3, "<init>", "()V"⟩
abbrev cX3_push : ByteArray := prog_5_method_2_code
def yX3_push : MethodName := ⟨RX3, "push", "(LShareStreams$Bench;)V"⟩
abbrev cX3_stateAt : ByteArray := prog_5_method_4_code
def yX3_stateAt : MethodName := ⟨RX3, "stateAt", "(I)LShareStreams$Bench;"⟩
def RX4 : String := "ShareStreams$Streams"
def TX4 : u_T := fun k => match k with
  | _ => ("ShareStreams$Streams", "rows", "[[J", true)
def tyX4 : Nat → FieldType := fun k => match k with
  | _ => .array (.array .long)
abbrev wsX40 : List Cond := u_ws RX4 TX4 1
theorem nmX4 : ∀ a, a < 1 → ∀ b, b < 1 → a ≠ b → (TX4 a).2.1 ≠ (TX4 b).2.1 := by decide +kernel
theorem tyX4_ok : ∀ k, k < 1 → parseFieldDescriptor (TX4 k).2.2.1 = some (tyX4 k) := by decide +kernel
abbrev cX4_init : ByteArray := prog_6_method_1_code
def yX4_init : MethodName := ⟨RX4, "<init>", "()V"⟩
abbrev cX4_fill : ByteArray := prog_6_method_2_code
def yX4_fill : MethodName := ⟨RX4, "fill", "(LShareStreams$Bench;II)V"⟩
abbrev cX4_fillRow : ByteArray := prog_6_method_4_code
def yX4_fillRow : MethodName := ⟨RX4, "fillRow", "(LShareStreams$Bench;II)V"⟩
abbrev cX4_fillSource : ByteArray := prog_6_method_5_code
def yX4_fillSource : MethodName := ⟨RX4, "fillSource", "(IIII)V"⟩
abbrev cX4_nextRegister : ByteArray := prog_6_method_6_code
def yX4_nextRegister : MethodName := ⟨RX4, "nextRegister", "(I)I"⟩
abbrev cX4_madeWord : ByteArray := prog_6_method_7_code
def yX4_madeWord : MethodName := ⟨RX4, "madeWord", "(LShareStreams$Bench;II)J"⟩
abbrev cX4_bitAt : ByteArray := prog_6_method_8_code
def yX4_bitAt : MethodName := ⟨RX4, "bitAt", "(II)I"⟩
abbrev cX4_onesIn : ByteArray := prog_6_method_9_code
def yX4_onesIn : MethodName := ⟨RX4, "onesIn", "(II)I"⟩
abbrev cX4_onesInBoth : ByteArray := prog_6_method_10_code
def yX4_onesInBoth : MethodName := ⟨RX4, "onesInBoth", "(III)I"⟩
abbrev cX4_wordAt : ByteArray := prog_6_method_11_code
def yX4_wordAt : MethodName := ⟨RX4, "wordAt", "(II)J"⟩
abbrev cX4_setWord : ByteArray := prog_6_method_12_code
def yX4_setWord : MethodName := ⟨RX4, "setWord", "(IIJ)V"⟩
def RX5 : String := "ShareStreams"
def TX5 : u_T := fun k => match k with
  | 0 => ("ShareStreams", "bench", "LShareStreams$Bench;", true)
  | 1 => ("ShareStreams", "snapshot", "LShareStreams$Bench;", true)
  | 2 => ("ShareStreams", "hasSnapshot", "Z", false)
  | 3 => ("ShareStreams", "spare", "LShareStreams$Bench;", true)
  | 4 => ("ShareStreams", "history", "LShareStreams$History;", true)
  | 5 => ("ShareStreams", "text", "LShareStreams$CircuitText;", true)
  | 6 => ("ShareStreams", "figures", "LShareStreams$Figures;", true)
  | _ => ("ShareStreams", "streams", "LShareStreams$Streams;", true)
def tyX5 : Nat → FieldType := fun k => match k with
  | 0 => .object "ShareStreams$Bench"
  | 1 => .object "ShareStreams$Bench"
  | 2 => .boolean
  | 3 => .object "ShareStreams$Bench"
  | 4 => .object "ShareStreams$History"
  | 5 => .object "ShareStreams$CircuitText"
  | 6 => .object "ShareStreams$Figures"
  | _ => .object "ShareStreams$Streams"
abbrev wsX50 : List Cond := u_ws RX5 TX5 8
theorem nmX5 : ∀ a, a < 8 → ∀ b, b < 8 → a ≠ b → (TX5 a).2.1 ≠ (TX5 b).2.1 := by decide +kernel
theorem tyX5_ok : ∀ k, k < 8 → parseFieldDescriptor (TX5 k).2.2.1 = some (tyX5 k) := by decide +kernel
abbrev cX5_init : ByteArray := prog_1_method_1_code
def yX5_init : MethodName := ⟨RX5, "<init>", "()V"⟩
abbrev cX5_source : ByteArray := prog_1_method_2_code
def yX5_source : MethodName := ⟨RX5, "source", "(II)I"⟩
abbrev cX5_gate : ByteArray := prog_1_method_3_code
def yX5_gate : MethodName := ⟨RX5, "gate", "(III)I"⟩
abbrev cX5_choose : ByteArray := prog_1_method_4_code
def yX5_choose : MethodName := ⟨RX5, "choose", "(III)I"⟩
abbrev cX5_turn : ByteArray := prog_1_method_5_code
def yX5_turn : MethodName := ⟨RX5, "turn", "(I)I"⟩
abbrev cX5_delay : ByteArray := prog_1_method_6_code
def yX5_delay : MethodName := ⟨RX5, "delay", "(II)I"⟩
abbrev cX5_reseed : ByteArray := prog_1_method_7_code
def yX5_reseed : MethodName := ⟨RX5, "reseed", "(III)I"⟩
abbrev cX5_removeLast : ByteArray := prog_1_method_8_code
def yX5_removeLast : MethodName := ⟨RX5, "removeLast", "()I"⟩
abbrev cX5_setLength : ByteArray := prog_1_method_9_code
def yX5_setLength : MethodName := ⟨RX5, "setLength", "(I)I"⟩
abbrev cX5_line : ByteArray := prog_1_method_16_code
def yX5_line : MethodName := ⟨RX5, "line", "(II)I"⟩
abbrev cX5_bit : ByteArray := prog_1_method_17_code
def yX5_bit : MethodName := ⟨RX5, "bit", "(II)I"⟩
abbrev cX5_overlap : ByteArray := prog_1_method_18_code
def yX5_overlap : MethodName := ⟨RX5, "overlap", "(II)I"⟩
abbrev cX5_errorAt : ByteArray := prog_1_method_19_code
def yX5_errorAt : MethodName := ⟨RX5, "errorAt", "(II)I"⟩
abbrev cX5_settles : ByteArray := prog_1_method_20_code
def yX5_settles : MethodName := ⟨RX5, "settles", "(II)I"⟩
abbrev cX5_unlike : ByteArray := prog_1_method_22_code
def yX5_unlike : MethodName := ⟨RX5, "unlike", "(I)I"⟩
abbrev cX5_count : ByteArray := prog_1_method_23_code
def yX5_count : MethodName := ⟨RX5, "count", "(I)I"⟩
abbrev cX5_addLine : ByteArray := prog_1_method_24_code
def yX5_addLine : MethodName := ⟨RX5, "addLine", "(IIII)I"⟩
abbrev cX5_onesOver : ByteArray := prog_1_method_25_code
def yX5_onesOver : MethodName := ⟨RX5, "onesOver", "(II)I"⟩
abbrev cX5_errorOver : ByteArray := prog_1_method_26_code
def yX5_errorOver : MethodName := ⟨RX5, "errorOver", "(II)I"⟩
abbrev cX5_errorOfFilled : ByteArray := prog_1_method_27_code
def yX5_errorOfFilled : MethodName := ⟨RX5, "errorOfFilled", "(II)I"⟩
abbrev cX5_errorOfCount : ByteArray := prog_1_method_28_code
def yX5_errorOfCount : MethodName := ⟨RX5, "errorOfCount", "(III)I"⟩
abbrev cX5_lastLengthBeyond : ByteArray := prog_1_method_29_code
def yX5_lastLengthBeyond : MethodName := ⟨RX5, "lastLengthBeyond", "(II)I"⟩
abbrev cX5_sumOfErrors : ByteArray := prog_1_method_31_code
def yX5_sumOfErrors : MethodName := ⟨RX5, "sumOfErrors", "()I"⟩
abbrev cX5_lineWithGreatestError : ByteArray := prog_1_method_32_code
def yX5_lineWithGreatestError : MethodName := ⟨RX5, "lineWithGreatestError", "()I"⟩
abbrev cX5_fillAll : ByteArray := prog_1_method_33_code
def yX5_fillAll : MethodName := ⟨RX5, "fillAll", "()V"⟩
abbrev cX5_shareOf : ByteArray := prog_1_method_35_code
def yX5_shareOf : MethodName := ⟨RX5, "shareOf", "(II)I"⟩
abbrev cX5_isShareAndSeed : ByteArray := prog_1_method_36_code
def yX5_isShareAndSeed : MethodName := ⟨RX5, "isShareAndSeed", "(II)Z"⟩
abbrev cX5_isWithin : ByteArray := prog_1_method_37_code
def yX5_isWithin : MethodName := ⟨RX5, "isWithin", "(III)Z"⟩
abbrev cX5_numbersOfKind : ByteArray := prog_1_method_38_code
def yX5_numbersOfKind : MethodName := ⟨RX5, "numbersOfKind", "(I)I"⟩
abbrev cX5_linesOfKind : ByteArray := prog_1_method_39_code
def yX5_linesOfKind : MethodName := ⟨RX5, "linesOfKind", "(I)I"⟩
abbrev cX5_elementAt : ByteArray := prog_1_method_40_code
def yX5_elementAt : MethodName := ⟨RX5, "elementAt", "([II)I"⟩
abbrev cX5_setElement : ByteArray := prog_1_method_41_code
def yX5_setElement : MethodName := ⟨RX5, "setElement", "([III)V"⟩
def RX6 : String := "ShareStreamsModel"
def TX6 : u_T := fun k => match k with
  | _ => ("", "", "", false)
def tyX6 : Nat → FieldType := fun k => match k with
  | _ => .int
abbrev wsX60 : List Cond := u_ws RX6 TX6 0
theorem nmX6 : ∀ a, a < 0 → ∀ b, b < 0 → a ≠ b → (TX6 a).2.1 ≠ (TX6 b).2.1 := by decide +kernel
theorem tyX6_ok : ∀ k, k < 0 → parseFieldDescriptor (TX6 k).2.2.1 = some (tyX6 k) := by decide +kernel
def RJ6 : String := "java/lang/Integer"
def TJ6 : u_T := fun k => match k with
  | _ => ("", "", "", false)
def tyJ6 : Nat → FieldType := fun k => match k with
  | _ => .int
abbrev wsJ60 : List Cond := u_ws RJ6 TJ6 0
theorem nmJ6 : ∀ a, a < 0 → ∀ b, b < 0 → a ≠ b → (TJ6 a).2.1 ≠ (TJ6 b).2.1 := by decide +kernel
theorem tyJ6_ok : ∀ k, k < 0 → parseFieldDescriptor (TJ6 k).2.2.1 = some (tyJ6 k) := by decide +kernel
abbrev cJ6_bitCount_0f7a4 : ByteArray := prog_9_method_49_code
def yJ6_bitCount_0f7a4 : MethodName := ⟨RJ6, "bitCount", "(I)I"⟩
def RJ13 : String := "java/lang/Long"
def TJ13 : u_T := fun k => match k with
  | _ => ("", "", "", false)
def tyJ13 : Nat → FieldType := fun k => match k with
  | _ => .int
abbrev wsJ130 : List Cond := u_ws RJ13 TJ13 0
theorem nmJ13 : ∀ a, a < 0 → ∀ b, b < 0 → a ≠ b → (TJ13 a).2.1 ≠ (TJ13 b).2.1 := by decide +kernel
theorem tyJ13_ok : ∀ k, k < 0 → parseFieldDescriptor (TJ13 k).2.2.1 = some (tyJ13 k) := by decide +kernel
abbrev cJ13_bitCount_95d88 : ByteArray := prog_10_method_50_code
def yJ13_bitCount_95d88 : MethodName := ⟨RJ13, "bitCount", "(J)I"⟩
def RJ9 : String := "java/lang/Math"
def TJ9 : u_T := fun k => match k with
  | _ => ("", "", "", false)
def tyJ9 : Nat → FieldType := fun k => match k with
  | _ => .int
abbrev wsJ90 : List Cond := u_ws RJ9 TJ9 0
theorem nmJ9 : ∀ a, a < 0 → ∀ b, b < 0 → a ≠ b → (TJ9 a).2.1 ≠ (TJ9 b).2.1 := by decide +kernel
theorem tyJ9_ok : ∀ k, k < 0 → parseFieldDescriptor (TJ9 k).2.2.1 = some (tyJ9 k) := by decide +kernel
abbrev cJ9_floorMod_7cf53 : ByteArray := prog_11_method_50_code
def yJ9_floorMod_7cf53 : MethodName := ⟨RJ9, "floorMod", "(II)I"⟩
abbrev cJ9_abs_0f7a4 : ByteArray := prog_11_method_59_code
def yJ9_abs_0f7a4 : MethodName := ⟨RJ9, "abs", "(I)I"⟩
abbrev cJ9_max_7cf53 : ByteArray := prog_11_method_65_code
def yJ9_max_7cf53 : MethodName := ⟨RJ9, "max", "(II)I"⟩
def RL : String := "ShareStreamsLaw"
abbrev cL_cell : ByteArray := method_2_code
def yL_cell : MethodName := ⟨RL, "cell", "([II)I"⟩
abbrev cL_up : ByteArray := method_3_code
def yL_up : MethodName := ⟨RL, "up", "(II)I"⟩
abbrev cL_isStep : ByteArray := method_4_code
def yL_isStep : MethodName := ⟨RL, "isStep", "(LShareStreams;LShareStreams;II)Z"⟩
abbrev cL_isTurned : ByteArray := method_5_code
def yL_isTurned : MethodName := ⟨RL, "isTurned", "(LShareStreams;LShareStreams;I)Z"⟩
abbrev cL_isLine : ByteArray := method_6_code
def yL_isLine : MethodName := ⟨RL, "isLine", "(LShareStreams;III)Z"⟩
abbrev cL_isWell : ByteArray := method_7_code
def yL_isWell : MethodName := ⟨RL, "isWell", "(LShareStreams;)Z"⟩
abbrev cL_law : ByteArray := code
def yL_law : MethodName := ⟨RL, "law", "([I)Z"⟩
set_option maxRecDepth 20000 in
abbrev vwCl : List vw_C := [(RX0, TX0, 4), (RX1, TX1, 3), (RX2, TX2, 3), (RX3, TX3, 3), (RX4, TX4, 1), (RX5, TX5, 8)]
/-- the words that a call carries on -/
def gW : List Cond := lw_tbl.filter goodWord
theorem gW_tbl {w : Cond} (h : w ∈ gW) : w ∈ lw_tbl := (List.mem_filter.mp h).1
theorem gW_good : ∀ w ∈ gW, goodWord w = true := fun _ h => (List.mem_filter.mp h).2
theorem gW_of {w : Cond} (h : w ∈ lw_tbl) (hg : goodWord w = true) : w ∈ gW := List.mem_filter.mpr ⟨h, hg⟩
theorem gW_t {w : Cond} (h : w ∈ tables_1) (hg : goodWord w = true) : w ∈ gW := gW_of (List.mem_append_right _ h) hg
theorem gW_all {ws : List Cond} (h : ∀ w ∈ ws, w ∈ tables_1 ∧ goodWord w = true) : ∀ w ∈ ws, w ∈ gW := fun w hw => gW_t (h w hw).1 (h w hw).2
theorem inlX0 : ∀ w ∈ wsX00, w ∈ gW := gW_all (by decide +kernel)
theorem inlX1 : ∀ w ∈ wsX10, w ∈ gW := gW_all (by decide +kernel)
theorem inlX2 : ∀ w ∈ wsX20, w ∈ gW := gW_all (by decide +kernel)
theorem inlX3 : ∀ w ∈ wsX30, w ∈ gW := gW_all (by decide +kernel)
theorem inlX4 : ∀ w ∈ wsX40, w ∈ gW := gW_all (by decide +kernel)
theorem inlX5 : ∀ w ∈ wsX50, w ∈ gW := gW_all (by decide +kernel)
end
section
theorem dX0_init_0 : decode cX0_init 0 = .ok (.aload_n 0, 1) := by decide +kernel
theorem dX0_init_1 : decode cX0_init 1 = .ok (.invokespecial 3, 3) := by decide +kernel
theorem dX0_init_4 : decode cX0_init 4 = .ok (.aload_n 0, 1) := by decide +kernel
theorem dX0_init_5 : decode cX0_init 5 = .ok (.sipush 256, 3) := by decide +kernel
theorem dX0_init_8 : decode cX0_init 8 = .ok (.putfield 9, 3) := by decide +kernel
theorem dX0_init_11 : decode cX0_init 11 = .ok (.aload_n 0, 1) := by decide +kernel
theorem dX0_init_12 : decode cX0_init 12 = .ok (.iconst 0, 1) := by decide +kernel
theorem dX0_init_13 : decode cX0_init 13 = .ok (.putfield 15, 3) := by decide +kernel
theorem dX0_init_16 : decode cX0_init 16 = .ok (.aload_n 0, 1) := by decide +kernel
theorem dX0_init_17 : decode cX0_init 17 = .ok (.bipush 16, 2) := by decide +kernel
theorem dX0_init_19 : decode cX0_init 19 = .ok (.newarray .int, 2) := by decide +kernel
theorem dX0_init_21 : decode cX0_init 21 = .ok (.putfield 18, 3) := by decide +kernel
theorem dX0_init_24 : decode cX0_init 24 = .ok (.aload_n 0, 1) := by decide +kernel
theorem dX0_init_25 : decode cX0_init 25 = .ok (.bipush 48, 2) := by decide +kernel
theorem dX0_init_27 : decode cX0_init 27 = .ok (.newarray .int, 2) := by decide +kernel
theorem dX0_init_29 : decode cX0_init 29 = .ok (.putfield 22, 3) := by decide +kernel
theorem dX0_init_32 : decode cX0_init 32 = .ok (.return_, 1) := by decide +kernel
theorem dX0_has_0 : decode cX0_has 0 = .ok (.iload_n 1, 1) := by decide +kernel
theorem dX0_has_1 : decode cX0_has 1 = .ok (.ifCond .lt 15, 3) := by decide +kernel
theorem dX0_has_4 : decode cX0_has 4 = .ok (.iload_n 1, 1) := by decide +kernel
theorem dX0_has_5 : decode cX0_has 5 = .ok (.aload_n 0, 1) := by decide +kernel
theorem dX0_has_6 : decode cX0_has 6 = .ok (.getfield 15, 3) := by decide +kernel
theorem dX0_has_9 : decode cX0_has 9 = .ok (.if_icmp .ge 7, 3) := by decide +kernel
theorem dX0_has_12 : decode cX0_has 12 = .ok (.iconst 1, 1) := by decide +kernel
theorem dX0_has_13 : decode cX0_has 13 = .ok (.goto 4, 3) := by decide +kernel
theorem dX0_has_16 : decode cX0_has 16 = .ok (.iconst 0, 1) := by decide +kernel
theorem dX0_has_17 : decode cX0_has 17 = .ok (.ireturn, 1) := by decide +kernel
theorem dX0_kindOf_0 : decode cX0_kindOf 0 = .ok (.aload_n 0, 1) := by decide +kernel
theorem dX0_kindOf_1 : decode cX0_kindOf 1 = .ok (.getfield 18, 3) := by decide +kernel
theorem dX0_kindOf_4 : decode cX0_kindOf 4 = .ok (.iload_n 1, 1) := by decide +kernel
theorem dX0_kindOf_5 : decode cX0_kindOf 5 = .ok (.invokestatic 25, 3) := by decide +kernel
theorem dX0_kindOf_8 : decode cX0_kindOf 8 = .ok (.ireturn, 1) := by decide +kernel
theorem dX0_numberOf_0 : decode cX0_numberOf 0 = .ok (.aload_n 0, 1) := by decide +kernel
theorem dX0_numberOf_1 : decode cX0_numberOf 1 = .ok (.getfield 22, 3) := by decide +kernel
theorem dX0_numberOf_4 : decode cX0_numberOf 4 = .ok (.iload_n 1, 1) := by decide +kernel
theorem dX0_numberOf_5 : decode cX0_numberOf 5 = .ok (.iconst 3, 1) := by decide +kernel
theorem dX0_numberOf_6 : decode cX0_numberOf 6 = .ok (.imul, 1) := by decide +kernel
theorem dX0_numberOf_7 : decode cX0_numberOf 7 = .ok (.iload_n 2, 1) := by decide +kernel
theorem dX0_numberOf_8 : decode cX0_numberOf 8 = .ok (.iadd, 1) := by decide +kernel
theorem dX0_numberOf_9 : decode cX0_numberOf 9 = .ok (.iconst 1, 1) := by decide +kernel
theorem dX0_numberOf_10 : decode cX0_numberOf 10 = .ok (.isub, 1) := by decide +kernel
theorem dX0_numberOf_11 : decode cX0_numberOf 11 = .ok (.invokestatic 25, 3) := by decide +kernel
theorem dX0_numberOf_14 : decode cX0_numberOf 14 = .ok (.ireturn, 1) := by decide +kernel
theorem dX0_setNumber_0 : decode cX0_setNumber 0 = .ok (.aload_n 0, 1) := by decide +kernel
theorem dX0_setNumber_1 : decode cX0_setNumber 1 = .ok (.getfield 22, 3) := by decide +kernel
theorem dX0_setNumber_4 : decode cX0_setNumber 4 = .ok (.iload_n 1, 1) := by decide +kernel
theorem dX0_setNumber_5 : decode cX0_setNumber 5 = .ok (.iconst 3, 1) := by decide +kernel
theorem dX0_setNumber_6 : decode cX0_setNumber 6 = .ok (.imul, 1) := by decide +kernel
theorem dX0_setNumber_7 : decode cX0_setNumber 7 = .ok (.iload_n 2, 1) := by decide +kernel
theorem dX0_setNumber_8 : decode cX0_setNumber 8 = .ok (.iadd, 1) := by decide +kernel
theorem dX0_setNumber_9 : decode cX0_setNumber 9 = .ok (.iconst 1, 1) := by decide +kernel
theorem dX0_setNumber_10 : decode cX0_setNumber 10 = .ok (.isub, 1) := by decide +kernel
theorem dX0_setNumber_11 : decode cX0_setNumber 11 = .ok (.iload_n 3, 1) := by decide +kernel
theorem dX0_setNumber_12 : decode cX0_setNumber 12 = .ok (.invokestatic 29, 3) := by decide +kernel
theorem dX0_setNumber_15 : decode cX0_setNumber 15 = .ok (.return_, 1) := by decide +kernel
theorem dX0_sources_0 : decode cX0_sources 0 = .ok (.iconst 0, 1) := by decide +kernel
theorem dX0_sources_1 : decode cX0_sources 1 = .ok (.istore_n 1, 1) := by decide +kernel
theorem dX0_sources_2 : decode cX0_sources 2 = .ok (.iconst 0, 1) := by decide +kernel
theorem dX0_sources_3 : decode cX0_sources 3 = .ok (.istore_n 2, 1) := by decide +kernel
theorem dX0_sources_4 : decode cX0_sources 4 = .ok (.iload_n 2, 1) := by decide +kernel
theorem dX0_sources_5 : decode cX0_sources 5 = .ok (.aload_n 0, 1) := by decide +kernel
theorem dX0_sources_6 : decode cX0_sources 6 = .ok (.getfield 15, 3) := by decide +kernel
theorem dX0_sources_9 : decode cX0_sources 9 = .ok (.if_icmp .ge 20, 3) := by decide +kernel
theorem dX0_sources_12 : decode cX0_sources 12 = .ok (.aload_n 0, 1) := by decide +kernel
theorem dX0_sources_13 : decode cX0_sources 13 = .ok (.iload_n 2, 1) := by decide +kernel
theorem dX0_sources_14 : decode cX0_sources 14 = .ok (.invokevirtual 33, 3) := by decide +kernel
theorem dX0_sources_17 : decode cX0_sources 17 = .ok (.ifCond .ne 6, 3) := by decide +kernel
theorem dX0_sources_20 : decode cX0_sources 20 = .ok (.iinc 1 1, 3) := by decide +kernel
theorem dX0_sources_23 : decode cX0_sources 23 = .ok (.iinc 2 1, 3) := by decide +kernel
theorem dX0_sources_26 : decode cX0_sources 26 = .ok (.goto (-22), 3) := by decide +kernel
theorem dX0_sources_29 : decode cX0_sources 29 = .ok (.iload_n 1, 1) := by decide +kernel
theorem dX0_sources_30 : decode cX0_sources 30 = .ok (.ireturn, 1) := by decide +kernel
theorem dX0_add_0 : decode cX0_add 0 = .ok (.aload_n 0, 1) := by decide +kernel
theorem dX0_add_1 : decode cX0_add 1 = .ok (.getfield 15, 3) := by decide +kernel
theorem dX0_add_4 : decode cX0_add 4 = .ok (.bipush 16, 2) := by decide +kernel
theorem dX0_add_6 : decode cX0_add 6 = .ok (.if_icmp .lt 4, 3) := by decide +kernel
theorem dX0_add_9 : decode cX0_add 9 = .ok (.return_, 1) := by decide +kernel
theorem dX0_add_10 : decode cX0_add 10 = .ok (.aload_n 0, 1) := by decide +kernel
theorem dX0_add_11 : decode cX0_add 11 = .ok (.getfield 18, 3) := by decide +kernel
theorem dX0_add_14 : decode cX0_add 14 = .ok (.aload_n 0, 1) := by decide +kernel
theorem dX0_add_15 : decode cX0_add 15 = .ok (.getfield 15, 3) := by decide +kernel
theorem dX0_add_18 : decode cX0_add 18 = .ok (.iload_n 1, 1) := by decide +kernel
theorem dX0_add_19 : decode cX0_add 19 = .ok (.invokestatic 29, 3) := by decide +kernel
theorem dX0_add_22 : decode cX0_add 22 = .ok (.aload_n 0, 1) := by decide +kernel
theorem dX0_add_23 : decode cX0_add 23 = .ok (.aload_n 0, 1) := by decide +kernel
theorem dX0_add_24 : decode cX0_add 24 = .ok (.getfield 15, 3) := by decide +kernel
theorem dX0_add_27 : decode cX0_add 27 = .ok (.iconst 1, 1) := by decide +kernel
theorem dX0_add_28 : decode cX0_add 28 = .ok (.iload_n 2, 1) := by decide +kernel
theorem dX0_add_29 : decode cX0_add 29 = .ok (.invokevirtual 37, 3) := by decide +kernel
theorem dX0_add_32 : decode cX0_add 32 = .ok (.aload_n 0, 1) := by decide +kernel
theorem dX0_add_33 : decode cX0_add 33 = .ok (.aload_n 0, 1) := by decide +kernel
theorem dX0_add_34 : decode cX0_add 34 = .ok (.getfield 15, 3) := by decide +kernel
theorem dX0_add_37 : decode cX0_add 37 = .ok (.iconst 2, 1) := by decide +kernel
theorem dX0_add_38 : decode cX0_add 38 = .ok (.iload_n 3, 1) := by decide +kernel
theorem dX0_add_39 : decode cX0_add 39 = .ok (.invokevirtual 37, 3) := by decide +kernel
theorem dX0_add_42 : decode cX0_add 42 = .ok (.aload_n 0, 1) := by decide +kernel
theorem dX0_add_43 : decode cX0_add 43 = .ok (.aload_n 0, 1) := by decide +kernel
theorem dX0_add_44 : decode cX0_add 44 = .ok (.getfield 15, 3) := by decide +kernel
theorem dX0_add_47 : decode cX0_add 47 = .ok (.iconst 3, 1) := by decide +kernel
theorem dX0_add_48 : decode cX0_add 48 = .ok (.iload 4, 2) := by decide +kernel
theorem dX0_add_50 : decode cX0_add 50 = .ok (.invokevirtual 37, 3) := by decide +kernel
theorem dX0_add_53 : decode cX0_add 53 = .ok (.aload_n 0, 1) := by decide +kernel
theorem dX0_add_54 : decode cX0_add 54 = .ok (.dup, 1) := by decide +kernel
theorem dX0_add_55 : decode cX0_add 55 = .ok (.getfield 15, 3) := by decide +kernel
theorem dX0_add_58 : decode cX0_add 58 = .ok (.iconst 1, 1) := by decide +kernel
theorem dX0_add_59 : decode cX0_add 59 = .ok (.iadd, 1) := by decide +kernel
theorem dX0_add_60 : decode cX0_add 60 = .ok (.putfield 15, 3) := by decide +kernel
theorem dX0_add_63 : decode cX0_add 63 = .ok (.return_, 1) := by decide +kernel
theorem dX0_addAll_0 : decode cX0_addAll 0 = .ok (.iconst 0, 1) := by decide +kernel
theorem dX0_addAll_1 : decode cX0_addAll 1 = .ok (.istore_n 2, 1) := by decide +kernel
theorem dX0_addAll_2 : decode cX0_addAll 2 = .ok (.iload_n 2, 1) := by decide +kernel
theorem dX0_addAll_3 : decode cX0_addAll 3 = .ok (.aload_n 1, 1) := by decide +kernel
theorem dX0_addAll_4 : decode cX0_addAll 4 = .ok (.getfield 15, 3) := by decide +kernel
theorem dX0_addAll_7 : decode cX0_addAll 7 = .ok (.if_icmp .ge 36, 3) := by decide +kernel
theorem dX0_addAll_10 : decode cX0_addAll 10 = .ok (.aload_n 0, 1) := by decide +kernel
theorem dX0_addAll_11 : decode cX0_addAll 11 = .ok (.aload_n 1, 1) := by decide +kernel
theorem dX0_addAll_12 : decode cX0_addAll 12 = .ok (.iload_n 2, 1) := by decide +kernel
theorem dX0_addAll_13 : decode cX0_addAll 13 = .ok (.invokevirtual 33, 3) := by decide +kernel
theorem dX0_addAll_16 : decode cX0_addAll 16 = .ok (.aload_n 1, 1) := by decide +kernel
theorem dX0_addAll_17 : decode cX0_addAll 17 = .ok (.iload_n 2, 1) := by decide +kernel
theorem dX0_addAll_18 : decode cX0_addAll 18 = .ok (.iconst 1, 1) := by decide +kernel
theorem dX0_addAll_19 : decode cX0_addAll 19 = .ok (.invokevirtual 41, 3) := by decide +kernel
theorem dX0_addAll_22 : decode cX0_addAll 22 = .ok (.aload_n 1, 1) := by decide +kernel
theorem dX0_addAll_23 : decode cX0_addAll 23 = .ok (.iload_n 2, 1) := by decide +kernel
theorem dX0_addAll_24 : decode cX0_addAll 24 = .ok (.iconst 2, 1) := by decide +kernel
theorem dX0_addAll_25 : decode cX0_addAll 25 = .ok (.invokevirtual 41, 3) := by decide +kernel
theorem dX0_addAll_28 : decode cX0_addAll 28 = .ok (.aload_n 1, 1) := by decide +kernel
theorem dX0_addAll_29 : decode cX0_addAll 29 = .ok (.iload_n 2, 1) := by decide +kernel
theorem dX0_addAll_30 : decode cX0_addAll 30 = .ok (.iconst 3, 1) := by decide +kernel
theorem dX0_addAll_31 : decode cX0_addAll 31 = .ok (.invokevirtual 41, 3) := by decide +kernel
theorem dX0_addAll_34 : decode cX0_addAll 34 = .ok (.invokevirtual 45, 3) := by decide +kernel
theorem dX0_addAll_37 : decode cX0_addAll 37 = .ok (.iinc 2 1, 3) := by decide +kernel
theorem dX0_addAll_40 : decode cX0_addAll 40 = .ok (.goto (-38), 3) := by decide +kernel
theorem dX0_addAll_43 : decode cX0_addAll 43 = .ok (.return_, 1) := by decide +kernel
theorem dX0_setSource_0 : decode cX0_setSource 0 = .ok (.aload_n 0, 1) := by decide +kernel
theorem dX0_setSource_1 : decode cX0_setSource 1 = .ok (.iload_n 1, 1) := by decide +kernel
theorem dX0_setSource_2 : decode cX0_setSource 2 = .ok (.iconst 1, 1) := by decide +kernel
theorem dX0_setSource_3 : decode cX0_setSource 3 = .ok (.iload_n 2, 1) := by decide +kernel
theorem dX0_setSource_4 : decode cX0_setSource 4 = .ok (.invokevirtual 37, 3) := by decide +kernel
theorem dX0_setSource_7 : decode cX0_setSource 7 = .ok (.aload_n 0, 1) := by decide +kernel
theorem dX0_setSource_8 : decode cX0_setSource 8 = .ok (.iload_n 1, 1) := by decide +kernel
theorem dX0_setSource_9 : decode cX0_setSource 9 = .ok (.iconst 2, 1) := by decide +kernel
theorem dX0_setSource_10 : decode cX0_setSource 10 = .ok (.iload_n 3, 1) := by decide +kernel
theorem dX0_setSource_11 : decode cX0_setSource 11 = .ok (.invokevirtual 37, 3) := by decide +kernel
theorem dX0_setSource_14 : decode cX0_setSource 14 = .ok (.return_, 1) := by decide +kernel
theorem dX0_dropLast_0 : decode cX0_dropLast 0 = .ok (.aload_n 0, 1) := by decide +kernel
theorem dX0_dropLast_1 : decode cX0_dropLast 1 = .ok (.getfield 15, 3) := by decide +kernel
theorem dX0_dropLast_4 : decode cX0_dropLast 4 = .ok (.ifCond .le 13, 3) := by decide +kernel
theorem dX0_dropLast_7 : decode cX0_dropLast 7 = .ok (.aload_n 0, 1) := by decide +kernel
theorem dX0_dropLast_8 : decode cX0_dropLast 8 = .ok (.dup, 1) := by decide +kernel
theorem dX0_dropLast_9 : decode cX0_dropLast 9 = .ok (.getfield 15, 3) := by decide +kernel
theorem dX0_dropLast_12 : decode cX0_dropLast 12 = .ok (.iconst 1, 1) := by decide +kernel
theorem dX0_dropLast_13 : decode cX0_dropLast 13 = .ok (.isub, 1) := by decide +kernel
theorem dX0_dropLast_14 : decode cX0_dropLast 14 = .ok (.putfield 15, 3) := by decide +kernel
theorem dX0_dropLast_17 : decode cX0_dropLast 17 = .ok (.return_, 1) := by decide +kernel
theorem dX0_copyFrom_0 : decode cX0_copyFrom 0 = .ok (.aload_n 0, 1) := by decide +kernel
theorem dX0_copyFrom_1 : decode cX0_copyFrom 1 = .ok (.aload_n 1, 1) := by decide +kernel
theorem dX0_copyFrom_2 : decode cX0_copyFrom 2 = .ok (.getfield 9, 3) := by decide +kernel
theorem dX0_copyFrom_5 : decode cX0_copyFrom 5 = .ok (.putfield 9, 3) := by decide +kernel
theorem dX0_copyFrom_8 : decode cX0_copyFrom 8 = .ok (.aload_n 0, 1) := by decide +kernel
theorem dX0_copyFrom_9 : decode cX0_copyFrom 9 = .ok (.iconst 0, 1) := by decide +kernel
theorem dX0_copyFrom_10 : decode cX0_copyFrom 10 = .ok (.putfield 15, 3) := by decide +kernel
theorem dX0_copyFrom_13 : decode cX0_copyFrom 13 = .ok (.aload_n 0, 1) := by decide +kernel
theorem dX0_copyFrom_14 : decode cX0_copyFrom 14 = .ok (.aload_n 1, 1) := by decide +kernel
theorem dX0_copyFrom_15 : decode cX0_copyFrom 15 = .ok (.invokevirtual 49, 3) := by decide +kernel
theorem dX0_copyFrom_18 : decode cX0_copyFrom 18 = .ok (.return_, 1) := by decide +kernel
theorem dX1_init_0 : decode cX1_init 0 = .ok (.aload_n 0, 1) := by decide +kernel
theorem dX1_init_1 : decode cX1_init 1 = .ok (.invokespecial 3, 3) := by decide +kernel
theorem dX1_init_4 : decode cX1_init 4 = .ok (.aload_n 0, 1) := by decide +kernel
theorem dX1_init_5 : decode cX1_init 5 = .ok (.bipush 80, 2) := by decide +kernel
theorem dX1_init_7 : decode cX1_init 7 = .ok (.newarray .char, 2) := by decide +kernel
theorem dX1_init_9 : decode cX1_init 9 = .ok (.putfield 9, 3) := by decide +kernel
theorem dX1_init_12 : decode cX1_init 12 = .ok (.aload_n 0, 1) := by decide +kernel
theorem dX1_init_13 : decode cX1_init 13 = .ok (.iconst 0, 1) := by decide +kernel
theorem dX1_init_14 : decode cX1_init 14 = .ok (.putfield 15, 3) := by decide +kernel
theorem dX1_init_17 : decode cX1_init 17 = .ok (.aload_n 0, 1) := by decide +kernel
theorem dX1_init_18 : decode cX1_init 18 = .ok (.iconst 0, 1) := by decide +kernel
theorem dX1_init_19 : decode cX1_init 19 = .ok (.putfield 19, 3) := by decide +kernel
theorem dX1_init_22 : decode cX1_init 22 = .ok (.return_, 1) := by decide +kernel
theorem dX2_init_0 : decode cX2_init 0 = .ok (.aload_n 0, 1) := by decide +kernel
theorem dX2_init_1 : decode cX2_init 1 = .ok (.invokespecial 3, 3) := by decide +kernel
theorem dX2_init_4 : decode cX2_init 4 = .ok (.aload_n 0, 1) := by decide +kernel
theorem dX2_init_5 : decode cX2_init 5 = .ok (.bipush 16, 2) := by decide +kernel
theorem dX2_init_7 : decode cX2_init 7 = .ok (.newarray .int, 2) := by decide +kernel
theorem dX2_init_9 : decode cX2_init 9 = .ok (.putfield 9, 3) := by decide +kernel
theorem dX2_init_12 : decode cX2_init 12 = .ok (.aload_n 0, 1) := by decide +kernel
theorem dX2_init_13 : decode cX2_init 13 = .ok (.bipush 16, 2) := by decide +kernel
theorem dX2_init_15 : decode cX2_init 15 = .ok (.newarray .int, 2) := by decide +kernel
theorem dX2_init_17 : decode cX2_init 17 = .ok (.putfield 15, 3) := by decide +kernel
theorem dX2_init_20 : decode cX2_init 20 = .ok (.aload_n 0, 1) := by decide +kernel
theorem dX2_init_21 : decode cX2_init 21 = .ok (.bipush 16, 2) := by decide +kernel
theorem dX2_init_23 : decode cX2_init 23 = .ok (.newarray .int, 2) := by decide +kernel
theorem dX2_init_25 : decode cX2_init 25 = .ok (.putfield 18, 3) := by decide +kernel
theorem dX2_init_28 : decode cX2_init 28 = .ok (.return_, 1) := by decide +kernel
theorem dX2_workOut_0 : decode cX2_workOut 0 = .ok (.iconst 0, 1) := by decide +kernel
theorem dX2_workOut_1 : decode cX2_workOut 1 = .ok (.istore_n 2, 1) := by decide +kernel
theorem dX2_workOut_2 : decode cX2_workOut 2 = .ok (.iload_n 2, 1) := by decide +kernel
theorem dX2_workOut_3 : decode cX2_workOut 3 = .ok (.aload_n 1, 1) := by decide +kernel
theorem dX2_workOut_4 : decode cX2_workOut 4 = .ok (.getfield 21, 3) := by decide +kernel
theorem dX2_workOut_7 : decode cX2_workOut 7 = .ok (.if_icmp .ge 51, 3) := by decide +kernel
theorem dX2_workOut_10 : decode cX2_workOut 10 = .ok (.aload_n 0, 1) := by decide +kernel
theorem dX2_workOut_11 : decode cX2_workOut 11 = .ok (.getfield 9, 3) := by decide +kernel
theorem dX2_workOut_14 : decode cX2_workOut 14 = .ok (.iload_n 2, 1) := by decide +kernel
theorem dX2_workOut_15 : decode cX2_workOut 15 = .ok (.aload_n 0, 1) := by decide +kernel
theorem dX2_workOut_16 : decode cX2_workOut 16 = .ok (.aload_n 1, 1) := by decide +kernel
theorem dX2_workOut_17 : decode cX2_workOut 17 = .ok (.iload_n 2, 1) := by decide +kernel
theorem dX2_workOut_18 : decode cX2_workOut 18 = .ok (.invokevirtual 27, 3) := by decide +kernel
theorem dX2_workOut_21 : decode cX2_workOut 21 = .ok (.invokestatic 31, 3) := by decide +kernel
theorem dX2_workOut_24 : decode cX2_workOut 24 = .ok (.aload_n 0, 1) := by decide +kernel
theorem dX2_workOut_25 : decode cX2_workOut 25 = .ok (.getfield 15, 3) := by decide +kernel
theorem dX2_workOut_28 : decode cX2_workOut 28 = .ok (.iload_n 2, 1) := by decide +kernel
theorem dX2_workOut_29 : decode cX2_workOut 29 = .ok (.aload_n 0, 1) := by decide +kernel
theorem dX2_workOut_30 : decode cX2_workOut 30 = .ok (.aload_n 1, 1) := by decide +kernel
theorem dX2_workOut_31 : decode cX2_workOut 31 = .ok (.iload_n 2, 1) := by decide +kernel
theorem dX2_workOut_32 : decode cX2_workOut 32 = .ok (.invokevirtual 35, 3) := by decide +kernel
theorem dX2_workOut_35 : decode cX2_workOut 35 = .ok (.invokestatic 31, 3) := by decide +kernel
theorem dX2_workOut_38 : decode cX2_workOut 38 = .ok (.aload_n 0, 1) := by decide +kernel
theorem dX2_workOut_39 : decode cX2_workOut 39 = .ok (.getfield 18, 3) := by decide +kernel
theorem dX2_workOut_42 : decode cX2_workOut 42 = .ok (.iload_n 2, 1) := by decide +kernel
theorem dX2_workOut_43 : decode cX2_workOut 43 = .ok (.aload_n 0, 1) := by decide +kernel
theorem dX2_workOut_44 : decode cX2_workOut 44 = .ok (.aload_n 1, 1) := by decide +kernel
theorem dX2_workOut_45 : decode cX2_workOut 45 = .ok (.iload_n 2, 1) := by decide +kernel
theorem dX2_workOut_46 : decode cX2_workOut 46 = .ok (.invokevirtual 38, 3) := by decide +kernel
theorem dX2_workOut_49 : decode cX2_workOut 49 = .ok (.invokestatic 31, 3) := by decide +kernel
theorem dX2_workOut_52 : decode cX2_workOut 52 = .ok (.iinc 2 1, 3) := by decide +kernel
theorem dX2_workOut_55 : decode cX2_workOut 55 = .ok (.goto (-53), 3) := by decide +kernel
theorem dX2_workOut_58 : decode cX2_workOut 58 = .ok (.return_, 1) := by decide +kernel
theorem dX2_exactShareOf_0 : decode cX2_exactShareOf 0 = .ok (.aload_n 0, 1) := by decide +kernel
theorem dX2_exactShareOf_1 : decode cX2_exactShareOf 1 = .ok (.getfield 9, 3) := by decide +kernel
theorem dX2_exactShareOf_4 : decode cX2_exactShareOf 4 = .ok (.iload_n 1, 1) := by decide +kernel
theorem dX2_exactShareOf_5 : decode cX2_exactShareOf 5 = .ok (.invokestatic 41, 3) := by decide +kernel
theorem dX2_exactShareOf_8 : decode cX2_exactShareOf 8 = .ok (.ireturn, 1) := by decide +kernel
theorem dX2_depthOf_0 : decode cX2_depthOf 0 = .ok (.aload_n 0, 1) := by decide +kernel
theorem dX2_depthOf_1 : decode cX2_depthOf 1 = .ok (.getfield 15, 3) := by decide +kernel
theorem dX2_depthOf_4 : decode cX2_depthOf 4 = .ok (.iload_n 1, 1) := by decide +kernel
theorem dX2_depthOf_5 : decode cX2_depthOf 5 = .ok (.invokestatic 41, 3) := by decide +kernel
theorem dX2_depthOf_8 : decode cX2_depthOf 8 = .ok (.ireturn, 1) := by decide +kernel
theorem dX2_sourcesOf_0 : decode cX2_sourcesOf 0 = .ok (.aload_n 0, 1) := by decide +kernel
theorem dX2_sourcesOf_1 : decode cX2_sourcesOf 1 = .ok (.getfield 18, 3) := by decide +kernel
theorem dX2_sourcesOf_4 : decode cX2_sourcesOf 4 = .ok (.iload_n 1, 1) := by decide +kernel
theorem dX2_sourcesOf_5 : decode cX2_sourcesOf 5 = .ok (.invokestatic 41, 3) := by decide +kernel
theorem dX2_sourcesOf_8 : decode cX2_sourcesOf 8 = .ok (.invokestatic 45, 3) := by decide +kernel
theorem dX2_sourcesOf_11 : decode cX2_sourcesOf 11 = .ok (.ireturn, 1) := by decide +kernel
theorem dX2_greatestDepth_0 : decode cX2_greatestDepth 0 = .ok (.iconst 0, 1) := by decide +kernel
theorem dX2_greatestDepth_1 : decode cX2_greatestDepth 1 = .ok (.istore_n 2, 1) := by decide +kernel
theorem dX2_greatestDepth_2 : decode cX2_greatestDepth 2 = .ok (.iconst 0, 1) := by decide +kernel
theorem dX2_greatestDepth_3 : decode cX2_greatestDepth 3 = .ok (.istore_n 3, 1) := by decide +kernel
theorem dX2_greatestDepth_4 : decode cX2_greatestDepth 4 = .ok (.iload_n 3, 1) := by decide +kernel
theorem dX2_greatestDepth_5 : decode cX2_greatestDepth 5 = .ok (.iload_n 1, 1) := by decide +kernel
theorem dX2_greatestDepth_6 : decode cX2_greatestDepth 6 = .ok (.if_icmp .ge 19, 3) := by decide +kernel
theorem dX2_greatestDepth_9 : decode cX2_greatestDepth 9 = .ok (.iload_n 2, 1) := by decide +kernel
theorem dX2_greatestDepth_10 : decode cX2_greatestDepth 10 = .ok (.aload_n 0, 1) := by decide +kernel
theorem dX2_greatestDepth_11 : decode cX2_greatestDepth 11 = .ok (.iload_n 3, 1) := by decide +kernel
theorem dX2_greatestDepth_12 : decode cX2_greatestDepth 12 = .ok (.invokevirtual 51, 3) := by decide +kernel
theorem dX2_greatestDepth_15 : decode cX2_greatestDepth 15 = .ok (.invokestatic 54, 3) := by decide +kernel
theorem dX2_greatestDepth_18 : decode cX2_greatestDepth 18 = .ok (.istore_n 2, 1) := by decide +kernel
theorem dX2_greatestDepth_19 : decode cX2_greatestDepth 19 = .ok (.iinc 3 1, 3) := by decide +kernel
theorem dX2_greatestDepth_22 : decode cX2_greatestDepth 22 = .ok (.goto (-18), 3) := by decide +kernel
theorem dX2_greatestDepth_25 : decode cX2_greatestDepth 25 = .ok (.iload_n 2, 1) := by decide +kernel
theorem dX2_greatestDepth_26 : decode cX2_greatestDepth 26 = .ok (.ireturn, 1) := by decide +kernel
theorem dX2_exactShareIn_0 : decode cX2_exactShareIn 0 = .ok (.aload_n 1, 1) := by decide +kernel
theorem dX2_exactShareIn_1 : decode cX2_exactShareIn 1 = .ok (.iload_n 2, 1) := by decide +kernel
theorem dX2_exactShareIn_2 : decode cX2_exactShareIn 2 = .ok (.iconst 1, 1) := by decide +kernel
theorem dX2_exactShareIn_3 : decode cX2_exactShareIn 3 = .ok (.invokevirtual 60, 3) := by decide +kernel
theorem dX2_exactShareIn_6 : decode cX2_exactShareIn 6 = .ok (.istore_n 3, 1) := by decide +kernel
theorem dX2_exactShareIn_7 : decode cX2_exactShareIn 7 = .ok (.aload_n 1, 1) := by decide +kernel
theorem dX2_exactShareIn_8 : decode cX2_exactShareIn 8 = .ok (.iload_n 2, 1) := by decide +kernel
theorem dX2_exactShareIn_9 : decode cX2_exactShareIn 9 = .ok (.iconst 2, 1) := by decide +kernel
theorem dX2_exactShareIn_10 : decode cX2_exactShareIn 10 = .ok (.invokevirtual 60, 3) := by decide +kernel
theorem dX2_exactShareIn_13 : decode cX2_exactShareIn 13 = .ok (.istore 4, 2) := by decide +kernel
theorem dX2_exactShareIn_15 : decode cX2_exactShareIn 15 = .ok (.aload_n 0, 1) := by decide +kernel
theorem dX2_exactShareIn_16 : decode cX2_exactShareIn 16 = .ok (.iload_n 3, 1) := by decide +kernel
theorem dX2_exactShareIn_17 : decode cX2_exactShareIn 17 = .ok (.invokevirtual 63, 3) := by decide +kernel
theorem dX2_exactShareIn_20 : decode cX2_exactShareIn 20 = .ok (.istore 5, 2) := by decide +kernel
theorem dX2_exactShareIn_22 : decode cX2_exactShareIn 22 = .ok (.aload_n 1, 1) := by decide +kernel
theorem dX2_exactShareIn_23 : decode cX2_exactShareIn 23 = .ok (.iload_n 2, 1) := by decide +kernel
theorem dX2_exactShareIn_24 : decode cX2_exactShareIn 24 = .ok (.invokevirtual 66, 3) := by decide +kernel
theorem dX2_exactShareIn_27 : decode cX2_exactShareIn 27 = .ok (.tableswitch 138 0 5 #[37, 43, 57, 81, 107, 132], 37) := by decide +kernel
theorem dX2_exactShareIn_64 : decode cX2_exactShareIn 64 = .ok (.iload_n 3, 1) := by decide +kernel
theorem dX2_exactShareIn_65 : decode cX2_exactShareIn 65 = .ok (.sipush 256, 3) := by decide +kernel
theorem dX2_exactShareIn_68 : decode cX2_exactShareIn 68 = .ok (.imul, 1) := by decide +kernel
theorem dX2_exactShareIn_69 : decode cX2_exactShareIn 69 = .ok (.ireturn, 1) := by decide +kernel
theorem dX2_exactShareIn_70 : decode cX2_exactShareIn 70 = .ok (.iload 5, 2) := by decide +kernel
theorem dX2_exactShareIn_72 : decode cX2_exactShareIn 72 = .ok (.i2l, 1) := by decide +kernel
theorem dX2_exactShareIn_73 : decode cX2_exactShareIn 73 = .ok (.aload_n 0, 1) := by decide +kernel
theorem dX2_exactShareIn_74 : decode cX2_exactShareIn 74 = .ok (.iload 4, 2) := by decide +kernel
theorem dX2_exactShareIn_76 : decode cX2_exactShareIn 76 = .ok (.invokevirtual 63, 3) := by decide +kernel
theorem dX2_exactShareIn_79 : decode cX2_exactShareIn 79 = .ok (.i2l, 1) := by decide +kernel
theorem dX2_exactShareIn_80 : decode cX2_exactShareIn 80 = .ok (.invokestatic 69, 3) := by decide +kernel
theorem dX2_exactShareIn_83 : decode cX2_exactShareIn 83 = .ok (.ireturn, 1) := by decide +kernel
theorem dX2_exactShareIn_84 : decode cX2_exactShareIn 84 = .ok (.iload 5, 2) := by decide +kernel
theorem dX2_exactShareIn_86 : decode cX2_exactShareIn 86 = .ok (.aload_n 0, 1) := by decide +kernel
theorem dX2_exactShareIn_87 : decode cX2_exactShareIn 87 = .ok (.iload 4, 2) := by decide +kernel
theorem dX2_exactShareIn_89 : decode cX2_exactShareIn 89 = .ok (.invokevirtual 63, 3) := by decide +kernel
theorem dX2_exactShareIn_92 : decode cX2_exactShareIn 92 = .ok (.iadd, 1) := by decide +kernel
theorem dX2_exactShareIn_93 : decode cX2_exactShareIn 93 = .ok (.iload 5, 2) := by decide +kernel
theorem dX2_exactShareIn_95 : decode cX2_exactShareIn 95 = .ok (.i2l, 1) := by decide +kernel
theorem dX2_exactShareIn_96 : decode cX2_exactShareIn 96 = .ok (.aload_n 0, 1) := by decide +kernel
theorem dX2_exactShareIn_97 : decode cX2_exactShareIn 97 = .ok (.iload 4, 2) := by decide +kernel
theorem dX2_exactShareIn_99 : decode cX2_exactShareIn 99 = .ok (.invokevirtual 63, 3) := by decide +kernel
theorem dX2_exactShareIn_102 : decode cX2_exactShareIn 102 = .ok (.i2l, 1) := by decide +kernel
theorem dX2_exactShareIn_103 : decode cX2_exactShareIn 103 = .ok (.invokestatic 69, 3) := by decide +kernel
theorem dX2_exactShareIn_106 : decode cX2_exactShareIn 106 = .ok (.isub, 1) := by decide +kernel
theorem dX2_exactShareIn_107 : decode cX2_exactShareIn 107 = .ok (.ireturn, 1) := by decide +kernel
theorem dX2_exactShareIn_108 : decode cX2_exactShareIn 108 = .ok (.iload 5, 2) := by decide +kernel
theorem dX2_exactShareIn_110 : decode cX2_exactShareIn 110 = .ok (.aload_n 0, 1) := by decide +kernel
theorem dX2_exactShareIn_111 : decode cX2_exactShareIn 111 = .ok (.iload 4, 2) := by decide +kernel
theorem dX2_exactShareIn_113 : decode cX2_exactShareIn 113 = .ok (.invokevirtual 63, 3) := by decide +kernel
theorem dX2_exactShareIn_116 : decode cX2_exactShareIn 116 = .ok (.iadd, 1) := by decide +kernel
theorem dX2_exactShareIn_117 : decode cX2_exactShareIn 117 = .ok (.iconst 2, 1) := by decide +kernel
theorem dX2_exactShareIn_118 : decode cX2_exactShareIn 118 = .ok (.iload 5, 2) := by decide +kernel
theorem dX2_exactShareIn_120 : decode cX2_exactShareIn 120 = .ok (.i2l, 1) := by decide +kernel
theorem dX2_exactShareIn_121 : decode cX2_exactShareIn 121 = .ok (.aload_n 0, 1) := by decide +kernel
theorem dX2_exactShareIn_122 : decode cX2_exactShareIn 122 = .ok (.iload 4, 2) := by decide +kernel
theorem dX2_exactShareIn_124 : decode cX2_exactShareIn 124 = .ok (.invokevirtual 63, 3) := by decide +kernel
theorem dX2_exactShareIn_127 : decode cX2_exactShareIn 127 = .ok (.i2l, 1) := by decide +kernel
theorem dX2_exactShareIn_128 : decode cX2_exactShareIn 128 = .ok (.invokestatic 69, 3) := by decide +kernel
theorem dX2_exactShareIn_131 : decode cX2_exactShareIn 131 = .ok (.imul, 1) := by decide +kernel
theorem dX2_exactShareIn_132 : decode cX2_exactShareIn 132 = .ok (.isub, 1) := by decide +kernel
theorem dX2_exactShareIn_133 : decode cX2_exactShareIn 133 = .ok (.ireturn, 1) := by decide +kernel
theorem dX2_exactShareIn_134 : decode cX2_exactShareIn 134 = .ok (.iload 5, 2) := by decide +kernel
theorem dX2_exactShareIn_136 : decode cX2_exactShareIn 136 = .ok (.i2l, 1) := by decide +kernel
theorem dX2_exactShareIn_137 : decode cX2_exactShareIn 137 = .ok (.aload_n 0, 1) := by decide +kernel
theorem dX2_exactShareIn_138 : decode cX2_exactShareIn 138 = .ok (.iload 4, 2) := by decide +kernel
theorem dX2_exactShareIn_140 : decode cX2_exactShareIn 140 = .ok (.invokevirtual 63, 3) := by decide +kernel
theorem dX2_exactShareIn_143 : decode cX2_exactShareIn 143 = .ok (.i2l, 1) := by decide +kernel
theorem dX2_exactShareIn_144 : decode cX2_exactShareIn 144 = .ok (.aload_n 0, 1) := by decide +kernel
theorem dX2_exactShareIn_145 : decode cX2_exactShareIn 145 = .ok (.aload_n 1, 1) := by decide +kernel
theorem dX2_exactShareIn_146 : decode cX2_exactShareIn 146 = .ok (.iload_n 2, 1) := by decide +kernel
theorem dX2_exactShareIn_147 : decode cX2_exactShareIn 147 = .ok (.iconst 3, 1) := by decide +kernel
theorem dX2_exactShareIn_148 : decode cX2_exactShareIn 148 = .ok (.invokevirtual 60, 3) := by decide +kernel
theorem dX2_exactShareIn_151 : decode cX2_exactShareIn 151 = .ok (.invokevirtual 63, 3) := by decide +kernel
theorem dX2_exactShareIn_154 : decode cX2_exactShareIn 154 = .ok (.i2l, 1) := by decide +kernel
theorem dX2_exactShareIn_155 : decode cX2_exactShareIn 155 = .ok (.invokestatic 73, 3) := by decide +kernel
theorem dX2_exactShareIn_158 : decode cX2_exactShareIn 158 = .ok (.ireturn, 1) := by decide +kernel
theorem dX2_exactShareIn_159 : decode cX2_exactShareIn 159 = .ok (.ldc 77, 2) := by decide +kernel
theorem dX2_exactShareIn_161 : decode cX2_exactShareIn 161 = .ok (.iload 5, 2) := by decide +kernel
theorem dX2_exactShareIn_163 : decode cX2_exactShareIn 163 = .ok (.isub, 1) := by decide +kernel
theorem dX2_exactShareIn_164 : decode cX2_exactShareIn 164 = .ok (.ireturn, 1) := by decide +kernel
theorem dX2_exactShareIn_165 : decode cX2_exactShareIn 165 = .ok (.iload 5, 2) := by decide +kernel
theorem dX2_exactShareIn_167 : decode cX2_exactShareIn 167 = .ok (.ireturn, 1) := by decide +kernel
theorem dX2_productOf_0 : decode cX2_productOf 0 = .ok (.lload_n 0, 1) := by decide +kernel
theorem dX2_productOf_1 : decode cX2_productOf 1 = .ok (.lload_n 2, 1) := by decide +kernel
theorem dX2_productOf_2 : decode cX2_productOf 2 = .ok (.lmul, 1) := by decide +kernel
theorem dX2_productOf_3 : decode cX2_productOf 3 = .ok (.ldc2_w 78, 3) := by decide +kernel
theorem dX2_productOf_6 : decode cX2_productOf 6 = .ok (.ldiv, 1) := by decide +kernel
theorem dX2_productOf_7 : decode cX2_productOf 7 = .ok (.l2i, 1) := by decide +kernel
theorem dX2_productOf_8 : decode cX2_productOf 8 = .ok (.ireturn, 1) := by decide +kernel
theorem dX2_mixOf_0 : decode cX2_mixOf 0 = .ok (.lload_n 0, 1) := by decide +kernel
theorem dX2_mixOf_1 : decode cX2_mixOf 1 = .ok (.lload 4, 2) := by decide +kernel
theorem dX2_mixOf_3 : decode cX2_mixOf 3 = .ok (.lmul, 1) := by decide +kernel
theorem dX2_mixOf_4 : decode cX2_mixOf 4 = .ok (.lload_n 2, 1) := by decide +kernel
theorem dX2_mixOf_5 : decode cX2_mixOf 5 = .ok (.ldc2_w 78, 3) := by decide +kernel
theorem dX2_mixOf_8 : decode cX2_mixOf 8 = .ok (.lload 4, 2) := by decide +kernel
theorem dX2_mixOf_10 : decode cX2_mixOf 10 = .ok (.lsub, 1) := by decide +kernel
theorem dX2_mixOf_11 : decode cX2_mixOf 11 = .ok (.lmul, 1) := by decide +kernel
theorem dX2_mixOf_12 : decode cX2_mixOf 12 = .ok (.ladd, 1) := by decide +kernel
theorem dX2_mixOf_13 : decode cX2_mixOf 13 = .ok (.ldc2_w 78, 3) := by decide +kernel
theorem dX2_mixOf_16 : decode cX2_mixOf 16 = .ok (.ldiv, 1) := by decide +kernel
theorem dX2_mixOf_17 : decode cX2_mixOf 17 = .ok (.l2i, 1) := by decide +kernel
theorem dX2_mixOf_18 : decode cX2_mixOf 18 = .ok (.ireturn, 1) := by decide +kernel
theorem dX2_depthIn_0 : decode cX2_depthIn 0 = .ok (.iconst 0, 1) := by decide +kernel
theorem dX2_depthIn_1 : decode cX2_depthIn 1 = .ok (.istore_n 3, 1) := by decide +kernel
theorem dX2_depthIn_2 : decode cX2_depthIn 2 = .ok (.aload_n 1, 1) := by decide +kernel
theorem dX2_depthIn_3 : decode cX2_depthIn 3 = .ok (.iload_n 2, 1) := by decide +kernel
theorem dX2_depthIn_4 : decode cX2_depthIn 4 = .ok (.invokevirtual 66, 3) := by decide +kernel
theorem dX2_depthIn_7 : decode cX2_depthIn 7 = .ok (.invokestatic 80, 3) := by decide +kernel
theorem dX2_depthIn_10 : decode cX2_depthIn 10 = .ok (.istore 4, 2) := by decide +kernel
theorem dX2_depthIn_12 : decode cX2_depthIn 12 = .ok (.iconst 1, 1) := by decide +kernel
theorem dX2_depthIn_13 : decode cX2_depthIn 13 = .ok (.istore 5, 2) := by decide +kernel
theorem dX2_depthIn_15 : decode cX2_depthIn 15 = .ok (.iload 5, 2) := by decide +kernel
theorem dX2_depthIn_17 : decode cX2_depthIn 17 = .ok (.iload 4, 2) := by decide +kernel
theorem dX2_depthIn_19 : decode cX2_depthIn 19 = .ok (.if_icmp .gt 27, 3) := by decide +kernel
theorem dX2_depthIn_22 : decode cX2_depthIn 22 = .ok (.iload_n 3, 1) := by decide +kernel
theorem dX2_depthIn_23 : decode cX2_depthIn 23 = .ok (.iconst 1, 1) := by decide +kernel
theorem dX2_depthIn_24 : decode cX2_depthIn 24 = .ok (.aload_n 0, 1) := by decide +kernel
theorem dX2_depthIn_25 : decode cX2_depthIn 25 = .ok (.aload_n 1, 1) := by decide +kernel
theorem dX2_depthIn_26 : decode cX2_depthIn 26 = .ok (.iload_n 2, 1) := by decide +kernel
theorem dX2_depthIn_27 : decode cX2_depthIn 27 = .ok (.iload 5, 2) := by decide +kernel
theorem dX2_depthIn_29 : decode cX2_depthIn 29 = .ok (.invokevirtual 60, 3) := by decide +kernel
theorem dX2_depthIn_32 : decode cX2_depthIn 32 = .ok (.invokevirtual 51, 3) := by decide +kernel
theorem dX2_depthIn_35 : decode cX2_depthIn 35 = .ok (.iadd, 1) := by decide +kernel
theorem dX2_depthIn_36 : decode cX2_depthIn 36 = .ok (.invokestatic 54, 3) := by decide +kernel
theorem dX2_depthIn_39 : decode cX2_depthIn 39 = .ok (.istore_n 3, 1) := by decide +kernel
theorem dX2_depthIn_40 : decode cX2_depthIn 40 = .ok (.iinc 5 1, 3) := by decide +kernel
theorem dX2_depthIn_43 : decode cX2_depthIn 43 = .ok (.goto (-28), 3) := by decide +kernel
theorem dX2_depthIn_46 : decode cX2_depthIn 46 = .ok (.iload_n 3, 1) := by decide +kernel
theorem dX2_depthIn_47 : decode cX2_depthIn 47 = .ok (.ireturn, 1) := by decide +kernel
theorem dX2_originsIn_0 : decode cX2_originsIn 0 = .ok (.aload_n 1, 1) := by decide +kernel
theorem dX2_originsIn_1 : decode cX2_originsIn 1 = .ok (.iload_n 2, 1) := by decide +kernel
theorem dX2_originsIn_2 : decode cX2_originsIn 2 = .ok (.invokevirtual 66, 3) := by decide +kernel
theorem dX2_originsIn_5 : decode cX2_originsIn 5 = .ok (.ifCond .ne 7, 3) := by decide +kernel
theorem dX2_originsIn_8 : decode cX2_originsIn 8 = .ok (.iconst 1, 1) := by decide +kernel
theorem dX2_originsIn_9 : decode cX2_originsIn 9 = .ok (.iload_n 2, 1) := by decide +kernel
theorem dX2_originsIn_10 : decode cX2_originsIn 10 = .ok (.ishl, 1) := by decide +kernel
theorem dX2_originsIn_11 : decode cX2_originsIn 11 = .ok (.ireturn, 1) := by decide +kernel
theorem dX2_originsIn_12 : decode cX2_originsIn 12 = .ok (.iconst 0, 1) := by decide +kernel
theorem dX2_originsIn_13 : decode cX2_originsIn 13 = .ok (.istore_n 3, 1) := by decide +kernel
theorem dX2_originsIn_14 : decode cX2_originsIn 14 = .ok (.aload_n 1, 1) := by decide +kernel
theorem dX2_originsIn_15 : decode cX2_originsIn 15 = .ok (.iload_n 2, 1) := by decide +kernel
theorem dX2_originsIn_16 : decode cX2_originsIn 16 = .ok (.invokevirtual 66, 3) := by decide +kernel
theorem dX2_originsIn_19 : decode cX2_originsIn 19 = .ok (.invokestatic 80, 3) := by decide +kernel
theorem dX2_originsIn_22 : decode cX2_originsIn 22 = .ok (.istore 4, 2) := by decide +kernel
theorem dX2_originsIn_24 : decode cX2_originsIn 24 = .ok (.iconst 1, 1) := by decide +kernel
theorem dX2_originsIn_25 : decode cX2_originsIn 25 = .ok (.istore 5, 2) := by decide +kernel
theorem dX2_originsIn_27 : decode cX2_originsIn 27 = .ok (.iload 5, 2) := by decide +kernel
theorem dX2_originsIn_29 : decode cX2_originsIn 29 = .ok (.iload 4, 2) := by decide +kernel
theorem dX2_originsIn_31 : decode cX2_originsIn 31 = .ok (.if_icmp .gt 26, 3) := by decide +kernel
theorem dX2_originsIn_34 : decode cX2_originsIn 34 = .ok (.iload_n 3, 1) := by decide +kernel
theorem dX2_originsIn_35 : decode cX2_originsIn 35 = .ok (.aload_n 0, 1) := by decide +kernel
theorem dX2_originsIn_36 : decode cX2_originsIn 36 = .ok (.getfield 18, 3) := by decide +kernel
theorem dX2_originsIn_39 : decode cX2_originsIn 39 = .ok (.aload_n 1, 1) := by decide +kernel
theorem dX2_originsIn_40 : decode cX2_originsIn 40 = .ok (.iload_n 2, 1) := by decide +kernel
theorem dX2_originsIn_41 : decode cX2_originsIn 41 = .ok (.iload 5, 2) := by decide +kernel
theorem dX2_originsIn_43 : decode cX2_originsIn 43 = .ok (.invokevirtual 60, 3) := by decide +kernel
theorem dX2_originsIn_46 : decode cX2_originsIn 46 = .ok (.invokestatic 41, 3) := by decide +kernel
theorem dX2_originsIn_49 : decode cX2_originsIn 49 = .ok (.ior, 1) := by decide +kernel
theorem dX2_originsIn_50 : decode cX2_originsIn 50 = .ok (.istore_n 3, 1) := by decide +kernel
theorem dX2_originsIn_51 : decode cX2_originsIn 51 = .ok (.iinc 5 1, 3) := by decide +kernel
theorem dX2_originsIn_54 : decode cX2_originsIn 54 = .ok (.goto (-27), 3) := by decide +kernel
theorem dX2_originsIn_57 : decode cX2_originsIn 57 = .ok (.iload_n 3, 1) := by decide +kernel
theorem dX2_originsIn_58 : decode cX2_originsIn 58 = .ok (.ireturn, 1) := by decide +kernel
theorem dX3_init_0 : decode cX3_init 0 = .ok (.aload_n 0, 1) := by decide +kernel
theorem dX3_init_1 : decode cX3_init 1 = .ok (.invokespecial 3, 3) := by decide +kernel
theorem dX3_init_4 : decode cX3_init 4 = .ok (.aload_n 0, 1) := by decide +kernel
theorem dX3_init_5 : decode cX3_init 5 = .ok (.iconst 4, 1) := by decide +kernel
theorem dX3_init_6 : decode cX3_init 6 = .ok (.anewarray 9, 3) := by decide +kernel
theorem dX3_init_9 : decode cX3_init 9 = .ok (.putfield 11, 3) := by decide +kernel
theorem dX3_init_12 : decode cX3_init 12 = .ok (.aload_n 0, 1) := by decide +kernel
theorem dX3_init_13 : decode cX3_init 13 = .ok (.iconst 0, 1) := by decide +kernel
theorem dX3_init_14 : decode cX3_init 14 = .ok (.putfield 17, 3) := by decide +kernel
theorem dX3_init_17 : decode cX3_init 17 = .ok (.aload_n 0, 1) := by decide +kernel
theorem dX3_init_18 : decode cX3_init 18 = .ok (.iconst 0, 1) := by decide +kernel
theorem dX3_init_19 : decode cX3_init 19 = .ok (.putfield 21, 3) := by decide +kernel
theorem dX3_init_22 : decode cX3_init 22 = .ok (.iconst 0, 1) := by decide +kernel
theorem dX3_init_23 : decode cX3_init 23 = .ok (.istore_n 1, 1) := by decide +kernel
theorem dX3_init_24 : decode cX3_init 24 = .ok (.iload_n 1, 1) := by decide +kernel
theorem dX3_init_25 : decode cX3_init 25 = .ok (.aload_n 0, 1) := by decide +kernel
theorem dX3_init_26 : decode cX3_init 26 = .ok (.getfield 11, 3) := by decide +kernel
theorem dX3_init_29 : decode cX3_init 29 = .ok (.arraylength, 1) := by decide +kernel
theorem dX3_init_30 : decode cX3_init 30 = .ok (.if_icmp .ge 22, 3) := by decide +kernel
theorem dX3_init_33 : decode cX3_init 33 = .ok (.aload_n 0, 1) := by decide +kernel
theorem dX3_init_34 : decode cX3_init 34 = .ok (.getfield 11, 3) := by decide +kernel
theorem dX3_init_37 : decode cX3_init 37 = .ok (.iload_n 1, 1) := by decide +kernel
theorem dX3_init_38 : decode cX3_init 38 = .ok (.new 9, 3) := by decide +kernel
theorem dX3_init_41 : decode cX3_init 41 = .ok (.dup, 1) := by decide +kernel
theorem dX3_init_42 : decode cX3_init 42 = .ok (.invokespecial 24, 3) := by decide +kernel
theorem dX3_init_45 : decode cX3_init 45 = .ok (.aastore, 1) := by decide +kernel
theorem dX3_init_46 : decode cX3_init 46 = .ok (.iinc 1 1, 3) := by decide +kernel
theorem dX3_init_49 : decode cX3_init 49 = .ok (.goto (-25), 3) := by decide +kernel
theorem dX3_init_52 : decode cX3_init 52 = .ok (.return_, 1) := by decide +kernel
theorem dX3_push_0 : decode cX3_push 0 = .ok (.aload_n 0, 1) := by decide +kernel
theorem dX3_push_1 : decode cX3_push 1 = .ok (.aload_n 0, 1) := by decide +kernel
theorem dX3_push_2 : decode cX3_push 2 = .ok (.getfield 21, 3) := by decide +kernel
theorem dX3_push_5 : decode cX3_push 5 = .ok (.invokevirtual 25, 3) := by decide +kernel
theorem dX3_push_8 : decode cX3_push 8 = .ok (.astore_n 2, 1) := by decide +kernel
theorem dX3_push_9 : decode cX3_push 9 = .ok (.aload_n 2, 1) := by decide +kernel
theorem dX3_push_10 : decode cX3_push 10 = .ok (.ifnonnull 4, 3) := by decide +kernel
theorem dX3_push_13 : decode cX3_push 13 = .ok (.return_, 1) := by decide +kernel
theorem dX3_push_14 : decode cX3_push 14 = .ok (.aload_n 2, 1) := by decide +kernel
theorem dX3_push_15 : decode cX3_push 15 = .ok (.aload_n 1, 1) := by decide +kernel
theorem dX3_push_16 : decode cX3_push 16 = .ok (.invokevirtual 29, 3) := by decide +kernel
theorem dX3_push_19 : decode cX3_push 19 = .ok (.aload_n 0, 1) := by decide +kernel
theorem dX3_push_20 : decode cX3_push 20 = .ok (.getfield 21, 3) := by decide +kernel
theorem dX3_push_23 : decode cX3_push 23 = .ok (.iconst 4, 1) := by decide +kernel
theorem dX3_push_24 : decode cX3_push 24 = .ok (.if_icmp .ge 16, 3) := by decide +kernel
theorem dX3_push_27 : decode cX3_push 27 = .ok (.aload_n 0, 1) := by decide +kernel
theorem dX3_push_28 : decode cX3_push 28 = .ok (.dup, 1) := by decide +kernel
theorem dX3_push_29 : decode cX3_push 29 = .ok (.getfield 21, 3) := by decide +kernel
theorem dX3_push_32 : decode cX3_push 32 = .ok (.iconst 1, 1) := by decide +kernel
theorem dX3_push_33 : decode cX3_push 33 = .ok (.iadd, 1) := by decide +kernel
theorem dX3_push_34 : decode cX3_push 34 = .ok (.putfield 21, 3) := by decide +kernel
theorem dX3_push_37 : decode cX3_push 37 = .ok (.goto 15, 3) := by decide +kernel
theorem dX3_push_40 : decode cX3_push 40 = .ok (.aload_n 0, 1) := by decide +kernel
theorem dX3_push_41 : decode cX3_push 41 = .ok (.aload_n 0, 1) := by decide +kernel
theorem dX3_push_42 : decode cX3_push 42 = .ok (.getfield 17, 3) := by decide +kernel
theorem dX3_push_45 : decode cX3_push 45 = .ok (.iconst 1, 1) := by decide +kernel
theorem dX3_push_46 : decode cX3_push 46 = .ok (.iadd, 1) := by decide +kernel
theorem dX3_push_47 : decode cX3_push 47 = .ok (.iconst 4, 1) := by decide +kernel
theorem dX3_push_48 : decode cX3_push 48 = .ok (.irem, 1) := by decide +kernel
theorem dX3_push_49 : decode cX3_push 49 = .ok (.putfield 17, 3) := by decide +kernel
theorem dX3_push_52 : decode cX3_push 52 = .ok (.return_, 1) := by decide +kernel
theorem dX3_stateAt_0 : decode cX3_stateAt 0 = .ok (.aload_n 0, 1) := by decide +kernel
theorem dX3_stateAt_1 : decode cX3_stateAt 1 = .ok (.getfield 17, 3) := by decide +kernel
theorem dX3_stateAt_4 : decode cX3_stateAt 4 = .ok (.iload_n 1, 1) := by decide +kernel
theorem dX3_stateAt_5 : decode cX3_stateAt 5 = .ok (.iadd, 1) := by decide +kernel
theorem dX3_stateAt_6 : decode cX3_stateAt 6 = .ok (.iconst 4, 1) := by decide +kernel
theorem dX3_stateAt_7 : decode cX3_stateAt 7 = .ok (.invokestatic 33, 3) := by decide +kernel
theorem dX3_stateAt_10 : decode cX3_stateAt 10 = .ok (.istore_n 2, 1) := by decide +kernel
theorem dX3_stateAt_11 : decode cX3_stateAt 11 = .ok (.iload_n 2, 1) := by decide +kernel
theorem dX3_stateAt_12 : decode cX3_stateAt 12 = .ok (.ifCond .lt 12, 3) := by decide +kernel
theorem dX3_stateAt_15 : decode cX3_stateAt 15 = .ok (.iload_n 2, 1) := by decide +kernel
theorem dX3_stateAt_16 : decode cX3_stateAt 16 = .ok (.aload_n 0, 1) := by decide +kernel
theorem dX3_stateAt_17 : decode cX3_stateAt 17 = .ok (.getfield 11, 3) := by decide +kernel
theorem dX3_stateAt_20 : decode cX3_stateAt 20 = .ok (.arraylength, 1) := by decide +kernel
theorem dX3_stateAt_21 : decode cX3_stateAt 21 = .ok (.if_icmp .lt 7, 3) := by decide +kernel
theorem dX3_stateAt_24 : decode cX3_stateAt 24 = .ok (.aconst_null, 1) := by decide +kernel
theorem dX3_stateAt_25 : decode cX3_stateAt 25 = .ok (.goto 9, 3) := by decide +kernel
theorem dX3_stateAt_28 : decode cX3_stateAt 28 = .ok (.aload_n 0, 1) := by decide +kernel
theorem dX3_stateAt_29 : decode cX3_stateAt 29 = .ok (.getfield 11, 3) := by decide +kernel
theorem dX3_stateAt_32 : decode cX3_stateAt 32 = .ok (.iload_n 2, 1) := by decide +kernel
theorem dX3_stateAt_33 : decode cX3_stateAt 33 = .ok (.aaload, 1) := by decide +kernel
theorem dX3_stateAt_34 : decode cX3_stateAt 34 = .ok (.areturn, 1) := by decide +kernel
theorem dX4_init_0 : decode cX4_init 0 = .ok (.aload_n 0, 1) := by decide +kernel
theorem dX4_init_1 : decode cX4_init 1 = .ok (.invokespecial 3, 3) := by decide +kernel
theorem dX4_init_4 : decode cX4_init 4 = .ok (.aload_n 0, 1) := by decide +kernel
theorem dX4_init_5 : decode cX4_init 5 = .ok (.bipush 16, 2) := by decide +kernel
theorem dX4_init_7 : decode cX4_init 7 = .ok (.bipush 16, 2) := by decide +kernel
theorem dX4_init_9 : decode cX4_init 9 = .ok (.multianewarray 9 2, 4) := by decide +kernel
theorem dX4_init_13 : decode cX4_init 13 = .ok (.putfield 11, 3) := by decide +kernel
theorem dX4_init_16 : decode cX4_init 16 = .ok (.return_, 1) := by decide +kernel
theorem dX4_fill_0 : decode cX4_fill 0 = .ok (.iconst 0, 1) := by decide +kernel
theorem dX4_fill_1 : decode cX4_fill 1 = .ok (.istore 4, 2) := by decide +kernel
theorem dX4_fill_3 : decode cX4_fill 3 = .ok (.iload 4, 2) := by decide +kernel
theorem dX4_fill_5 : decode cX4_fill 5 = .ok (.iload_n 2, 1) := by decide +kernel
theorem dX4_fill_6 : decode cX4_fill 6 = .ok (.if_icmp .gt 24, 3) := by decide +kernel
theorem dX4_fill_9 : decode cX4_fill 9 = .ok (.iload 4, 2) := by decide +kernel
theorem dX4_fill_11 : decode cX4_fill 11 = .ok (.bipush 16, 2) := by decide +kernel
theorem dX4_fill_13 : decode cX4_fill 13 = .ok (.if_icmp .ge 17, 3) := by decide +kernel
theorem dX4_fill_16 : decode cX4_fill 16 = .ok (.aload_n 0, 1) := by decide +kernel
theorem dX4_fill_17 : decode cX4_fill 17 = .ok (.aload_n 1, 1) := by decide +kernel
theorem dX4_fill_18 : decode cX4_fill 18 = .ok (.iload 4, 2) := by decide +kernel
theorem dX4_fill_20 : decode cX4_fill 20 = .ok (.iload_n 3, 1) := by decide +kernel
theorem dX4_fill_21 : decode cX4_fill 21 = .ok (.invokevirtual 16, 3) := by decide +kernel
theorem dX4_fill_24 : decode cX4_fill 24 = .ok (.iinc 4 1, 3) := by decide +kernel
theorem dX4_fill_27 : decode cX4_fill 27 = .ok (.goto (-24), 3) := by decide +kernel
theorem dX4_fill_30 : decode cX4_fill 30 = .ok (.return_, 1) := by decide +kernel
theorem dX4_fillRow_0 : decode cX4_fillRow 0 = .ok (.iload_n 3, 1) := by decide +kernel
theorem dX4_fillRow_1 : decode cX4_fillRow 1 = .ok (.bipush 64, 2) := by decide +kernel
theorem dX4_fillRow_3 : decode cX4_fillRow 3 = .ok (.iadd, 1) := by decide +kernel
theorem dX4_fillRow_4 : decode cX4_fillRow 4 = .ok (.iconst 1, 1) := by decide +kernel
theorem dX4_fillRow_5 : decode cX4_fillRow 5 = .ok (.isub, 1) := by decide +kernel
theorem dX4_fillRow_6 : decode cX4_fillRow 6 = .ok (.bipush 64, 2) := by decide +kernel
theorem dX4_fillRow_8 : decode cX4_fillRow 8 = .ok (.idiv, 1) := by decide +kernel
theorem dX4_fillRow_9 : decode cX4_fillRow 9 = .ok (.istore 4, 2) := by decide +kernel
theorem dX4_fillRow_11 : decode cX4_fillRow 11 = .ok (.aload_n 1, 1) := by decide +kernel
theorem dX4_fillRow_12 : decode cX4_fillRow 12 = .ok (.iload_n 2, 1) := by decide +kernel
theorem dX4_fillRow_13 : decode cX4_fillRow 13 = .ok (.invokevirtual 20, 3) := by decide +kernel
theorem dX4_fillRow_16 : decode cX4_fillRow 16 = .ok (.ifCond .ne 23, 3) := by decide +kernel
theorem dX4_fillRow_19 : decode cX4_fillRow 19 = .ok (.aload_n 0, 1) := by decide +kernel
theorem dX4_fillRow_20 : decode cX4_fillRow 20 = .ok (.iload_n 2, 1) := by decide +kernel
theorem dX4_fillRow_21 : decode cX4_fillRow 21 = .ok (.aload_n 1, 1) := by decide +kernel
theorem dX4_fillRow_22 : decode cX4_fillRow 22 = .ok (.iload_n 2, 1) := by decide +kernel
theorem dX4_fillRow_23 : decode cX4_fillRow 23 = .ok (.iconst 1, 1) := by decide +kernel
theorem dX4_fillRow_24 : decode cX4_fillRow 24 = .ok (.invokevirtual 26, 3) := by decide +kernel
theorem dX4_fillRow_27 : decode cX4_fillRow 27 = .ok (.aload_n 1, 1) := by decide +kernel
theorem dX4_fillRow_28 : decode cX4_fillRow 28 = .ok (.iload_n 2, 1) := by decide +kernel
theorem dX4_fillRow_29 : decode cX4_fillRow 29 = .ok (.iconst 2, 1) := by decide +kernel
theorem dX4_fillRow_30 : decode cX4_fillRow 30 = .ok (.invokevirtual 26, 3) := by decide +kernel
theorem dX4_fillRow_33 : decode cX4_fillRow 33 = .ok (.iload 4, 2) := by decide +kernel
theorem dX4_fillRow_35 : decode cX4_fillRow 35 = .ok (.invokevirtual 30, 3) := by decide +kernel
theorem dX4_fillRow_38 : decode cX4_fillRow 38 = .ok (.return_, 1) := by decide +kernel
theorem dX4_fillRow_39 : decode cX4_fillRow 39 = .ok (.iconst 0, 1) := by decide +kernel
theorem dX4_fillRow_40 : decode cX4_fillRow 40 = .ok (.istore 5, 2) := by decide +kernel
theorem dX4_fillRow_42 : decode cX4_fillRow 42 = .ok (.iload 5, 2) := by decide +kernel
theorem dX4_fillRow_44 : decode cX4_fillRow 44 = .ok (.iload 4, 2) := by decide +kernel
theorem dX4_fillRow_46 : decode cX4_fillRow 46 = .ok (.if_icmp .ge 24, 3) := by decide +kernel
theorem dX4_fillRow_49 : decode cX4_fillRow 49 = .ok (.aload_n 0, 1) := by decide +kernel
theorem dX4_fillRow_50 : decode cX4_fillRow 50 = .ok (.iload_n 2, 1) := by decide +kernel
theorem dX4_fillRow_51 : decode cX4_fillRow 51 = .ok (.iload 5, 2) := by decide +kernel
theorem dX4_fillRow_53 : decode cX4_fillRow 53 = .ok (.aload_n 0, 1) := by decide +kernel
theorem dX4_fillRow_54 : decode cX4_fillRow 54 = .ok (.aload_n 1, 1) := by decide +kernel
theorem dX4_fillRow_55 : decode cX4_fillRow 55 = .ok (.iload_n 2, 1) := by decide +kernel
theorem dX4_fillRow_56 : decode cX4_fillRow 56 = .ok (.iload 5, 2) := by decide +kernel
theorem dX4_fillRow_58 : decode cX4_fillRow 58 = .ok (.invokevirtual 34, 3) := by decide +kernel
theorem dX4_fillRow_61 : decode cX4_fillRow 61 = .ok (.invokevirtual 38, 3) := by decide +kernel
theorem dX4_fillRow_64 : decode cX4_fillRow 64 = .ok (.iinc 5 1, 3) := by decide +kernel
theorem dX4_fillRow_67 : decode cX4_fillRow 67 = .ok (.goto (-25), 3) := by decide +kernel
theorem dX4_fillRow_70 : decode cX4_fillRow 70 = .ok (.return_, 1) := by decide +kernel
theorem dX4_fillSource_0 : decode cX4_fillSource 0 = .ok (.iload_n 3, 1) := by decide +kernel
theorem dX4_fillSource_1 : decode cX4_fillSource 1 = .ok (.istore 5, 2) := by decide +kernel
theorem dX4_fillSource_3 : decode cX4_fillSource 3 = .ok (.iconst 0, 1) := by decide +kernel
theorem dX4_fillSource_4 : decode cX4_fillSource 4 = .ok (.istore 6, 2) := by decide +kernel
theorem dX4_fillSource_6 : decode cX4_fillSource 6 = .ok (.iload 6, 2) := by decide +kernel
theorem dX4_fillSource_8 : decode cX4_fillSource 8 = .ok (.iload 4, 2) := by decide +kernel
theorem dX4_fillSource_10 : decode cX4_fillSource 10 = .ok (.if_icmp .ge 59, 3) := by decide +kernel
theorem dX4_fillSource_13 : decode cX4_fillSource 13 = .ok (.lconst 0, 1) := by decide +kernel
theorem dX4_fillSource_14 : decode cX4_fillSource 14 = .ok (.lstore 7, 2) := by decide +kernel
theorem dX4_fillSource_16 : decode cX4_fillSource 16 = .ok (.iconst 0, 1) := by decide +kernel
theorem dX4_fillSource_17 : decode cX4_fillSource 17 = .ok (.istore 9, 2) := by decide +kernel
theorem dX4_fillSource_19 : decode cX4_fillSource 19 = .ok (.iload 9, 2) := by decide +kernel
theorem dX4_fillSource_21 : decode cX4_fillSource 21 = .ok (.bipush 64, 2) := by decide +kernel
theorem dX4_fillSource_23 : decode cX4_fillSource 23 = .ok (.if_icmp .ge 31, 3) := by decide +kernel
theorem dX4_fillSource_26 : decode cX4_fillSource 26 = .ok (.iload 5, 2) := by decide +kernel
theorem dX4_fillSource_28 : decode cX4_fillSource 28 = .ok (.iload_n 2, 1) := by decide +kernel
theorem dX4_fillSource_29 : decode cX4_fillSource 29 = .ok (.if_icmp .gt 12, 3) := by decide +kernel
theorem dX4_fillSource_32 : decode cX4_fillSource 32 = .ok (.lload 7, 2) := by decide +kernel
theorem dX4_fillSource_34 : decode cX4_fillSource 34 = .ok (.lconst 1, 1) := by decide +kernel
theorem dX4_fillSource_35 : decode cX4_fillSource 35 = .ok (.iload 9, 2) := by decide +kernel
theorem dX4_fillSource_37 : decode cX4_fillSource 37 = .ok (.lshl, 1) := by decide +kernel
theorem dX4_fillSource_38 : decode cX4_fillSource 38 = .ok (.lor, 1) := by decide +kernel
theorem dX4_fillSource_39 : decode cX4_fillSource 39 = .ok (.lstore 7, 2) := by decide +kernel
theorem dX4_fillSource_41 : decode cX4_fillSource 41 = .ok (.iload 5, 2) := by decide +kernel
theorem dX4_fillSource_43 : decode cX4_fillSource 43 = .ok (.invokestatic 42, 3) := by decide +kernel
theorem dX4_fillSource_46 : decode cX4_fillSource 46 = .ok (.istore 5, 2) := by decide +kernel
theorem dX4_fillSource_48 : decode cX4_fillSource 48 = .ok (.iinc 9 1, 3) := by decide +kernel
theorem dX4_fillSource_51 : decode cX4_fillSource 51 = .ok (.goto (-32), 3) := by decide +kernel
theorem dX4_fillSource_54 : decode cX4_fillSource 54 = .ok (.aload_n 0, 1) := by decide +kernel
theorem dX4_fillSource_55 : decode cX4_fillSource 55 = .ok (.iload_n 1, 1) := by decide +kernel
theorem dX4_fillSource_56 : decode cX4_fillSource 56 = .ok (.iload 6, 2) := by decide +kernel
theorem dX4_fillSource_58 : decode cX4_fillSource 58 = .ok (.lload 7, 2) := by decide +kernel
theorem dX4_fillSource_60 : decode cX4_fillSource 60 = .ok (.invokevirtual 38, 3) := by decide +kernel
theorem dX4_fillSource_63 : decode cX4_fillSource 63 = .ok (.iinc 6 1, 3) := by decide +kernel
theorem dX4_fillSource_66 : decode cX4_fillSource 66 = .ok (.goto (-60), 3) := by decide +kernel
theorem dX4_fillSource_69 : decode cX4_fillSource 69 = .ok (.return_, 1) := by decide +kernel
theorem dX4_nextRegister_0 : decode cX4_nextRegister 0 = .ok (.iload_n 0, 1) := by decide +kernel
theorem dX4_nextRegister_1 : decode cX4_nextRegister 1 = .ok (.iconst 2, 1) := by decide +kernel
theorem dX4_nextRegister_2 : decode cX4_nextRegister 2 = .ok (.imul, 1) := by decide +kernel
theorem dX4_nextRegister_3 : decode cX4_nextRegister 3 = .ok (.istore_n 1, 1) := by decide +kernel
theorem dX4_nextRegister_4 : decode cX4_nextRegister 4 = .ok (.iload_n 1, 1) := by decide +kernel
theorem dX4_nextRegister_5 : decode cX4_nextRegister 5 = .ok (.sipush 256, 3) := by decide +kernel
theorem dX4_nextRegister_8 : decode cX4_nextRegister 8 = .ok (.if_icmp .ge 7, 3) := by decide +kernel
theorem dX4_nextRegister_11 : decode cX4_nextRegister 11 = .ok (.iload_n 1, 1) := by decide +kernel
theorem dX4_nextRegister_12 : decode cX4_nextRegister 12 = .ok (.goto 11, 3) := by decide +kernel
theorem dX4_nextRegister_15 : decode cX4_nextRegister 15 = .ok (.iload_n 1, 1) := by decide +kernel
theorem dX4_nextRegister_16 : decode cX4_nextRegister 16 = .ok (.sipush 256, 3) := by decide +kernel
theorem dX4_nextRegister_19 : decode cX4_nextRegister 19 = .ok (.isub, 1) := by decide +kernel
theorem dX4_nextRegister_20 : decode cX4_nextRegister 20 = .ok (.bipush 29, 2) := by decide +kernel
theorem dX4_nextRegister_22 : decode cX4_nextRegister 22 = .ok (.ixor, 1) := by decide +kernel
theorem dX4_nextRegister_23 : decode cX4_nextRegister 23 = .ok (.ireturn, 1) := by decide +kernel
theorem dX4_madeWord_0 : decode cX4_madeWord 0 = .ok (.aload_n 1, 1) := by decide +kernel
theorem dX4_madeWord_1 : decode cX4_madeWord 1 = .ok (.iload_n 2, 1) := by decide +kernel
theorem dX4_madeWord_2 : decode cX4_madeWord 2 = .ok (.iconst 1, 1) := by decide +kernel
theorem dX4_madeWord_3 : decode cX4_madeWord 3 = .ok (.invokevirtual 26, 3) := by decide +kernel
theorem dX4_madeWord_6 : decode cX4_madeWord 6 = .ok (.istore 4, 2) := by decide +kernel
theorem dX4_madeWord_8 : decode cX4_madeWord 8 = .ok (.aload_n 1, 1) := by decide +kernel
theorem dX4_madeWord_9 : decode cX4_madeWord 9 = .ok (.iload_n 2, 1) := by decide +kernel
theorem dX4_madeWord_10 : decode cX4_madeWord 10 = .ok (.iconst 2, 1) := by decide +kernel
theorem dX4_madeWord_11 : decode cX4_madeWord 11 = .ok (.invokevirtual 26, 3) := by decide +kernel
theorem dX4_madeWord_14 : decode cX4_madeWord 14 = .ok (.istore 5, 2) := by decide +kernel
theorem dX4_madeWord_16 : decode cX4_madeWord 16 = .ok (.aload_n 0, 1) := by decide +kernel
theorem dX4_madeWord_17 : decode cX4_madeWord 17 = .ok (.iload 4, 2) := by decide +kernel
theorem dX4_madeWord_19 : decode cX4_madeWord 19 = .ok (.iload_n 3, 1) := by decide +kernel
theorem dX4_madeWord_20 : decode cX4_madeWord 20 = .ok (.invokevirtual 45, 3) := by decide +kernel
theorem dX4_madeWord_23 : decode cX4_madeWord 23 = .ok (.lstore 6, 2) := by decide +kernel
theorem dX4_madeWord_25 : decode cX4_madeWord 25 = .ok (.aload_n 1, 1) := by decide +kernel
theorem dX4_madeWord_26 : decode cX4_madeWord 26 = .ok (.iload_n 2, 1) := by decide +kernel
theorem dX4_madeWord_27 : decode cX4_madeWord 27 = .ok (.invokevirtual 20, 3) := by decide +kernel
theorem dX4_madeWord_30 : decode cX4_madeWord 30 = .ok (.tableswitch 108 1 5 #[34, 45, 56, 67, 101], 34) := by decide +kernel
theorem dX4_madeWord_64 : decode cX4_madeWord 64 = .ok (.lload 6, 2) := by decide +kernel
theorem dX4_madeWord_66 : decode cX4_madeWord 66 = .ok (.aload_n 0, 1) := by decide +kernel
theorem dX4_madeWord_67 : decode cX4_madeWord 67 = .ok (.iload 5, 2) := by decide +kernel
theorem dX4_madeWord_69 : decode cX4_madeWord 69 = .ok (.iload_n 3, 1) := by decide +kernel
theorem dX4_madeWord_70 : decode cX4_madeWord 70 = .ok (.invokevirtual 45, 3) := by decide +kernel
theorem dX4_madeWord_73 : decode cX4_madeWord 73 = .ok (.land, 1) := by decide +kernel
theorem dX4_madeWord_74 : decode cX4_madeWord 74 = .ok (.lreturn, 1) := by decide +kernel
theorem dX4_madeWord_75 : decode cX4_madeWord 75 = .ok (.lload 6, 2) := by decide +kernel
theorem dX4_madeWord_77 : decode cX4_madeWord 77 = .ok (.aload_n 0, 1) := by decide +kernel
theorem dX4_madeWord_78 : decode cX4_madeWord 78 = .ok (.iload 5, 2) := by decide +kernel
theorem dX4_madeWord_80 : decode cX4_madeWord 80 = .ok (.iload_n 3, 1) := by decide +kernel
theorem dX4_madeWord_81 : decode cX4_madeWord 81 = .ok (.invokevirtual 45, 3) := by decide +kernel
theorem dX4_madeWord_84 : decode cX4_madeWord 84 = .ok (.lor, 1) := by decide +kernel
theorem dX4_madeWord_85 : decode cX4_madeWord 85 = .ok (.lreturn, 1) := by decide +kernel
theorem dX4_madeWord_86 : decode cX4_madeWord 86 = .ok (.lload 6, 2) := by decide +kernel
theorem dX4_madeWord_88 : decode cX4_madeWord 88 = .ok (.aload_n 0, 1) := by decide +kernel
theorem dX4_madeWord_89 : decode cX4_madeWord 89 = .ok (.iload 5, 2) := by decide +kernel
theorem dX4_madeWord_91 : decode cX4_madeWord 91 = .ok (.iload_n 3, 1) := by decide +kernel
theorem dX4_madeWord_92 : decode cX4_madeWord 92 = .ok (.invokevirtual 45, 3) := by decide +kernel
theorem dX4_madeWord_95 : decode cX4_madeWord 95 = .ok (.lxor, 1) := by decide +kernel
theorem dX4_madeWord_96 : decode cX4_madeWord 96 = .ok (.lreturn, 1) := by decide +kernel
theorem dX4_madeWord_97 : decode cX4_madeWord 97 = .ok (.aload_n 0, 1) := by decide +kernel
theorem dX4_madeWord_98 : decode cX4_madeWord 98 = .ok (.aload_n 1, 1) := by decide +kernel
theorem dX4_madeWord_99 : decode cX4_madeWord 99 = .ok (.iload_n 2, 1) := by decide +kernel
theorem dX4_madeWord_100 : decode cX4_madeWord 100 = .ok (.iconst 3, 1) := by decide +kernel
theorem dX4_madeWord_101 : decode cX4_madeWord 101 = .ok (.invokevirtual 26, 3) := by decide +kernel
theorem dX4_madeWord_104 : decode cX4_madeWord 104 = .ok (.iload_n 3, 1) := by decide +kernel
theorem dX4_madeWord_105 : decode cX4_madeWord 105 = .ok (.invokevirtual 45, 3) := by decide +kernel
theorem dX4_madeWord_108 : decode cX4_madeWord 108 = .ok (.lstore 8, 2) := by decide +kernel
theorem dX4_madeWord_110 : decode cX4_madeWord 110 = .ok (.lload 6, 2) := by decide +kernel
theorem dX4_madeWord_112 : decode cX4_madeWord 112 = .ok (.lload 8, 2) := by decide +kernel
theorem dX4_madeWord_114 : decode cX4_madeWord 114 = .ok (.land, 1) := by decide +kernel
theorem dX4_madeWord_115 : decode cX4_madeWord 115 = .ok (.aload_n 0, 1) := by decide +kernel
theorem dX4_madeWord_116 : decode cX4_madeWord 116 = .ok (.iload 5, 2) := by decide +kernel
theorem dX4_madeWord_118 : decode cX4_madeWord 118 = .ok (.iload_n 3, 1) := by decide +kernel
theorem dX4_madeWord_119 : decode cX4_madeWord 119 = .ok (.invokevirtual 45, 3) := by decide +kernel
theorem dX4_madeWord_122 : decode cX4_madeWord 122 = .ok (.lload 8, 2) := by decide +kernel
theorem dX4_madeWord_124 : decode cX4_madeWord 124 = .ok (.ldc2_w 49, 3) := by decide +kernel
theorem dX4_madeWord_127 : decode cX4_madeWord 127 = .ok (.lxor, 1) := by decide +kernel
theorem dX4_madeWord_128 : decode cX4_madeWord 128 = .ok (.land, 1) := by decide +kernel
theorem dX4_madeWord_129 : decode cX4_madeWord 129 = .ok (.lor, 1) := by decide +kernel
theorem dX4_madeWord_130 : decode cX4_madeWord 130 = .ok (.lreturn, 1) := by decide +kernel
theorem dX4_madeWord_131 : decode cX4_madeWord 131 = .ok (.lload 6, 2) := by decide +kernel
theorem dX4_madeWord_133 : decode cX4_madeWord 133 = .ok (.ldc2_w 49, 3) := by decide +kernel
theorem dX4_madeWord_136 : decode cX4_madeWord 136 = .ok (.lxor, 1) := by decide +kernel
theorem dX4_madeWord_137 : decode cX4_madeWord 137 = .ok (.lreturn, 1) := by decide +kernel
theorem dX4_madeWord_138 : decode cX4_madeWord 138 = .ok (.lload 6, 2) := by decide +kernel
theorem dX4_madeWord_140 : decode cX4_madeWord 140 = .ok (.iload 5, 2) := by decide +kernel
theorem dX4_madeWord_142 : decode cX4_madeWord 142 = .ok (.lshl, 1) := by decide +kernel
theorem dX4_madeWord_143 : decode cX4_madeWord 143 = .ok (.aload_n 0, 1) := by decide +kernel
theorem dX4_madeWord_144 : decode cX4_madeWord 144 = .ok (.iload 4, 2) := by decide +kernel
theorem dX4_madeWord_146 : decode cX4_madeWord 146 = .ok (.iload_n 3, 1) := by decide +kernel
theorem dX4_madeWord_147 : decode cX4_madeWord 147 = .ok (.iconst 1, 1) := by decide +kernel
theorem dX4_madeWord_148 : decode cX4_madeWord 148 = .ok (.isub, 1) := by decide +kernel
theorem dX4_madeWord_149 : decode cX4_madeWord 149 = .ok (.invokevirtual 45, 3) := by decide +kernel
theorem dX4_madeWord_152 : decode cX4_madeWord 152 = .ok (.bipush 64, 2) := by decide +kernel
theorem dX4_madeWord_154 : decode cX4_madeWord 154 = .ok (.iload 5, 2) := by decide +kernel
theorem dX4_madeWord_156 : decode cX4_madeWord 156 = .ok (.isub, 1) := by decide +kernel
theorem dX4_madeWord_157 : decode cX4_madeWord 157 = .ok (.lushr, 1) := by decide +kernel
theorem dX4_madeWord_158 : decode cX4_madeWord 158 = .ok (.lor, 1) := by decide +kernel
theorem dX4_madeWord_159 : decode cX4_madeWord 159 = .ok (.lreturn, 1) := by decide +kernel
theorem dX4_bitAt_0 : decode cX4_bitAt 0 = .ok (.aload_n 0, 1) := by decide +kernel
theorem dX4_bitAt_1 : decode cX4_bitAt 1 = .ok (.iload_n 1, 1) := by decide +kernel
theorem dX4_bitAt_2 : decode cX4_bitAt 2 = .ok (.iload_n 2, 1) := by decide +kernel
theorem dX4_bitAt_3 : decode cX4_bitAt 3 = .ok (.bipush 64, 2) := by decide +kernel
theorem dX4_bitAt_5 : decode cX4_bitAt 5 = .ok (.idiv, 1) := by decide +kernel
theorem dX4_bitAt_6 : decode cX4_bitAt 6 = .ok (.invokevirtual 45, 3) := by decide +kernel
theorem dX4_bitAt_9 : decode cX4_bitAt 9 = .ok (.iload_n 2, 1) := by decide +kernel
theorem dX4_bitAt_10 : decode cX4_bitAt 10 = .ok (.bipush 64, 2) := by decide +kernel
theorem dX4_bitAt_12 : decode cX4_bitAt 12 = .ok (.irem, 1) := by decide +kernel
theorem dX4_bitAt_13 : decode cX4_bitAt 13 = .ok (.lushr, 1) := by decide +kernel
theorem dX4_bitAt_14 : decode cX4_bitAt 14 = .ok (.l2i, 1) := by decide +kernel
theorem dX4_bitAt_15 : decode cX4_bitAt 15 = .ok (.iconst 1, 1) := by decide +kernel
theorem dX4_bitAt_16 : decode cX4_bitAt 16 = .ok (.iand, 1) := by decide +kernel
theorem dX4_bitAt_17 : decode cX4_bitAt 17 = .ok (.ireturn, 1) := by decide +kernel
theorem dX4_onesIn_0 : decode cX4_onesIn 0 = .ok (.aload_n 0, 1) := by decide +kernel
theorem dX4_onesIn_1 : decode cX4_onesIn 1 = .ok (.iload_n 1, 1) := by decide +kernel
theorem dX4_onesIn_2 : decode cX4_onesIn 2 = .ok (.iload_n 1, 1) := by decide +kernel
theorem dX4_onesIn_3 : decode cX4_onesIn 3 = .ok (.iload_n 2, 1) := by decide +kernel
theorem dX4_onesIn_4 : decode cX4_onesIn 4 = .ok (.invokevirtual 51, 3) := by decide +kernel
theorem dX4_onesIn_7 : decode cX4_onesIn 7 = .ok (.ireturn, 1) := by decide +kernel
theorem dX4_onesInBoth_0 : decode cX4_onesInBoth 0 = .ok (.iconst 0, 1) := by decide +kernel
theorem dX4_onesInBoth_1 : decode cX4_onesInBoth 1 = .ok (.istore 4, 2) := by decide +kernel
theorem dX4_onesInBoth_3 : decode cX4_onesInBoth 3 = .ok (.iload_n 3, 1) := by decide +kernel
theorem dX4_onesInBoth_4 : decode cX4_onesInBoth 4 = .ok (.bipush 64, 2) := by decide +kernel
theorem dX4_onesInBoth_6 : decode cX4_onesInBoth 6 = .ok (.idiv, 1) := by decide +kernel
theorem dX4_onesInBoth_7 : decode cX4_onesInBoth 7 = .ok (.istore 5, 2) := by decide +kernel
theorem dX4_onesInBoth_9 : decode cX4_onesInBoth 9 = .ok (.iconst 0, 1) := by decide +kernel
theorem dX4_onesInBoth_10 : decode cX4_onesInBoth 10 = .ok (.istore 6, 2) := by decide +kernel
theorem dX4_onesInBoth_12 : decode cX4_onesInBoth 12 = .ok (.iload 6, 2) := by decide +kernel
theorem dX4_onesInBoth_14 : decode cX4_onesInBoth 14 = .ok (.iload 5, 2) := by decide +kernel
theorem dX4_onesInBoth_16 : decode cX4_onesInBoth 16 = .ok (.if_icmp .ge 32, 3) := by decide +kernel
theorem dX4_onesInBoth_19 : decode cX4_onesInBoth 19 = .ok (.iload 4, 2) := by decide +kernel
theorem dX4_onesInBoth_21 : decode cX4_onesInBoth 21 = .ok (.aload_n 0, 1) := by decide +kernel
theorem dX4_onesInBoth_22 : decode cX4_onesInBoth 22 = .ok (.iload_n 1, 1) := by decide +kernel
theorem dX4_onesInBoth_23 : decode cX4_onesInBoth 23 = .ok (.iload 6, 2) := by decide +kernel
theorem dX4_onesInBoth_25 : decode cX4_onesInBoth 25 = .ok (.invokevirtual 45, 3) := by decide +kernel
theorem dX4_onesInBoth_28 : decode cX4_onesInBoth 28 = .ok (.aload_n 0, 1) := by decide +kernel
theorem dX4_onesInBoth_29 : decode cX4_onesInBoth 29 = .ok (.iload_n 2, 1) := by decide +kernel
theorem dX4_onesInBoth_30 : decode cX4_onesInBoth 30 = .ok (.iload 6, 2) := by decide +kernel
theorem dX4_onesInBoth_32 : decode cX4_onesInBoth 32 = .ok (.invokevirtual 45, 3) := by decide +kernel
theorem dX4_onesInBoth_35 : decode cX4_onesInBoth 35 = .ok (.land, 1) := by decide +kernel
theorem dX4_onesInBoth_36 : decode cX4_onesInBoth 36 = .ok (.invokestatic 55, 3) := by decide +kernel
theorem dX4_onesInBoth_39 : decode cX4_onesInBoth 39 = .ok (.iadd, 1) := by decide +kernel
theorem dX4_onesInBoth_40 : decode cX4_onesInBoth 40 = .ok (.istore 4, 2) := by decide +kernel
theorem dX4_onesInBoth_42 : decode cX4_onesInBoth 42 = .ok (.iinc 6 1, 3) := by decide +kernel
theorem dX4_onesInBoth_45 : decode cX4_onesInBoth 45 = .ok (.goto (-33), 3) := by decide +kernel
theorem dX4_onesInBoth_48 : decode cX4_onesInBoth 48 = .ok (.lconst 1, 1) := by decide +kernel
theorem dX4_onesInBoth_49 : decode cX4_onesInBoth 49 = .ok (.iload_n 3, 1) := by decide +kernel
theorem dX4_onesInBoth_50 : decode cX4_onesInBoth 50 = .ok (.bipush 64, 2) := by decide +kernel
theorem dX4_onesInBoth_52 : decode cX4_onesInBoth 52 = .ok (.irem, 1) := by decide +kernel
theorem dX4_onesInBoth_53 : decode cX4_onesInBoth 53 = .ok (.lshl, 1) := by decide +kernel
theorem dX4_onesInBoth_54 : decode cX4_onesInBoth 54 = .ok (.lconst 1, 1) := by decide +kernel
theorem dX4_onesInBoth_55 : decode cX4_onesInBoth 55 = .ok (.lsub, 1) := by decide +kernel
theorem dX4_onesInBoth_56 : decode cX4_onesInBoth 56 = .ok (.lstore 6, 2) := by decide +kernel
theorem dX4_onesInBoth_58 : decode cX4_onesInBoth 58 = .ok (.iload 4, 2) := by decide +kernel
theorem dX4_onesInBoth_60 : decode cX4_onesInBoth 60 = .ok (.aload_n 0, 1) := by decide +kernel
theorem dX4_onesInBoth_61 : decode cX4_onesInBoth 61 = .ok (.iload_n 1, 1) := by decide +kernel
theorem dX4_onesInBoth_62 : decode cX4_onesInBoth 62 = .ok (.iload 5, 2) := by decide +kernel
theorem dX4_onesInBoth_64 : decode cX4_onesInBoth 64 = .ok (.invokevirtual 45, 3) := by decide +kernel
theorem dX4_onesInBoth_67 : decode cX4_onesInBoth 67 = .ok (.aload_n 0, 1) := by decide +kernel
theorem dX4_onesInBoth_68 : decode cX4_onesInBoth 68 = .ok (.iload_n 2, 1) := by decide +kernel
theorem dX4_onesInBoth_69 : decode cX4_onesInBoth 69 = .ok (.iload 5, 2) := by decide +kernel
theorem dX4_onesInBoth_71 : decode cX4_onesInBoth 71 = .ok (.invokevirtual 45, 3) := by decide +kernel
theorem dX4_onesInBoth_74 : decode cX4_onesInBoth 74 = .ok (.land, 1) := by decide +kernel
theorem dX4_onesInBoth_75 : decode cX4_onesInBoth 75 = .ok (.lload 6, 2) := by decide +kernel
theorem dX4_onesInBoth_77 : decode cX4_onesInBoth 77 = .ok (.land, 1) := by decide +kernel
theorem dX4_onesInBoth_78 : decode cX4_onesInBoth 78 = .ok (.invokestatic 55, 3) := by decide +kernel
theorem dX4_onesInBoth_81 : decode cX4_onesInBoth 81 = .ok (.iadd, 1) := by decide +kernel
theorem dX4_onesInBoth_82 : decode cX4_onesInBoth 82 = .ok (.ireturn, 1) := by decide +kernel
theorem dX4_wordAt_0 : decode cX4_wordAt 0 = .ok (.iload_n 1, 1) := by decide +kernel
theorem dX4_wordAt_1 : decode cX4_wordAt 1 = .ok (.ifCond .lt 12, 3) := by decide +kernel
theorem dX4_wordAt_4 : decode cX4_wordAt 4 = .ok (.iload_n 1, 1) := by decide +kernel
theorem dX4_wordAt_5 : decode cX4_wordAt 5 = .ok (.aload_n 0, 1) := by decide +kernel
theorem dX4_wordAt_6 : decode cX4_wordAt 6 = .ok (.getfield 11, 3) := by decide +kernel
theorem dX4_wordAt_9 : decode cX4_wordAt 9 = .ok (.arraylength, 1) := by decide +kernel
theorem dX4_wordAt_10 : decode cX4_wordAt 10 = .ok (.if_icmp .lt 5, 3) := by decide +kernel
theorem dX4_wordAt_13 : decode cX4_wordAt 13 = .ok (.lconst 0, 1) := by decide +kernel
theorem dX4_wordAt_14 : decode cX4_wordAt 14 = .ok (.lreturn, 1) := by decide +kernel
theorem dX4_wordAt_15 : decode cX4_wordAt 15 = .ok (.aload_n 0, 1) := by decide +kernel
theorem dX4_wordAt_16 : decode cX4_wordAt 16 = .ok (.getfield 11, 3) := by decide +kernel
theorem dX4_wordAt_19 : decode cX4_wordAt 19 = .ok (.iload_n 1, 1) := by decide +kernel
theorem dX4_wordAt_20 : decode cX4_wordAt 20 = .ok (.aaload, 1) := by decide +kernel
theorem dX4_wordAt_21 : decode cX4_wordAt 21 = .ok (.astore_n 3, 1) := by decide +kernel
theorem dX4_wordAt_22 : decode cX4_wordAt 22 = .ok (.iload_n 2, 1) := by decide +kernel
theorem dX4_wordAt_23 : decode cX4_wordAt 23 = .ok (.ifCond .lt 9, 3) := by decide +kernel
theorem dX4_wordAt_26 : decode cX4_wordAt 26 = .ok (.iload_n 2, 1) := by decide +kernel
theorem dX4_wordAt_27 : decode cX4_wordAt 27 = .ok (.aload_n 3, 1) := by decide +kernel
theorem dX4_wordAt_28 : decode cX4_wordAt 28 = .ok (.arraylength, 1) := by decide +kernel
theorem dX4_wordAt_29 : decode cX4_wordAt 29 = .ok (.if_icmp .lt 7, 3) := by decide +kernel
theorem dX4_wordAt_32 : decode cX4_wordAt 32 = .ok (.lconst 0, 1) := by decide +kernel
theorem dX4_wordAt_33 : decode cX4_wordAt 33 = .ok (.goto 6, 3) := by decide +kernel
theorem dX4_wordAt_36 : decode cX4_wordAt 36 = .ok (.aload_n 3, 1) := by decide +kernel
theorem dX4_wordAt_37 : decode cX4_wordAt 37 = .ok (.iload_n 2, 1) := by decide +kernel
theorem dX4_wordAt_38 : decode cX4_wordAt 38 = .ok (.laload, 1) := by decide +kernel
theorem dX4_wordAt_39 : decode cX4_wordAt 39 = .ok (.lreturn, 1) := by decide +kernel
theorem dX4_setWord_0 : decode cX4_setWord 0 = .ok (.iload_n 1, 1) := by decide +kernel
theorem dX4_setWord_1 : decode cX4_setWord 1 = .ok (.ifCond .lt 12, 3) := by decide +kernel
theorem dX4_setWord_4 : decode cX4_setWord 4 = .ok (.iload_n 1, 1) := by decide +kernel
theorem dX4_setWord_5 : decode cX4_setWord 5 = .ok (.aload_n 0, 1) := by decide +kernel
theorem dX4_setWord_6 : decode cX4_setWord 6 = .ok (.getfield 11, 3) := by decide +kernel
theorem dX4_setWord_9 : decode cX4_setWord 9 = .ok (.arraylength, 1) := by decide +kernel
theorem dX4_setWord_10 : decode cX4_setWord 10 = .ok (.if_icmp .lt 4, 3) := by decide +kernel
theorem dX4_setWord_13 : decode cX4_setWord 13 = .ok (.return_, 1) := by decide +kernel
theorem dX4_setWord_14 : decode cX4_setWord 14 = .ok (.aload_n 0, 1) := by decide +kernel
theorem dX4_setWord_15 : decode cX4_setWord 15 = .ok (.getfield 11, 3) := by decide +kernel
theorem dX4_setWord_18 : decode cX4_setWord 18 = .ok (.iload_n 1, 1) := by decide +kernel
theorem dX4_setWord_19 : decode cX4_setWord 19 = .ok (.aaload, 1) := by decide +kernel
theorem dX4_setWord_20 : decode cX4_setWord 20 = .ok (.astore 5, 2) := by decide +kernel
theorem dX4_setWord_22 : decode cX4_setWord 22 = .ok (.iload_n 2, 1) := by decide +kernel
theorem dX4_setWord_23 : decode cX4_setWord 23 = .ok (.ifCond .lt 15, 3) := by decide +kernel
theorem dX4_setWord_26 : decode cX4_setWord 26 = .ok (.iload_n 2, 1) := by decide +kernel
theorem dX4_setWord_27 : decode cX4_setWord 27 = .ok (.aload 5, 2) := by decide +kernel
theorem dX4_setWord_29 : decode cX4_setWord 29 = .ok (.arraylength, 1) := by decide +kernel
theorem dX4_setWord_30 : decode cX4_setWord 30 = .ok (.if_icmp .ge 8, 3) := by decide +kernel
theorem dX4_setWord_33 : decode cX4_setWord 33 = .ok (.aload 5, 2) := by decide +kernel
theorem dX4_setWord_35 : decode cX4_setWord 35 = .ok (.iload_n 2, 1) := by decide +kernel
theorem dX4_setWord_36 : decode cX4_setWord 36 = .ok (.lload_n 3, 1) := by decide +kernel
theorem dX4_setWord_37 : decode cX4_setWord 37 = .ok (.lastore, 1) := by decide +kernel
theorem dX4_setWord_38 : decode cX4_setWord 38 = .ok (.return_, 1) := by decide +kernel
end
section
theorem dX5_init_0 : decode cX5_init 0 = .ok (.aload_n 0, 1) := by decide +kernel
theorem dX5_init_1 : decode cX5_init 1 = .ok (.invokespecial 1, 3) := by decide +kernel
theorem dX5_init_4 : decode cX5_init 4 = .ok (.aload_n 0, 1) := by decide +kernel
theorem dX5_init_5 : decode cX5_init 5 = .ok (.new 7, 3) := by decide +kernel
theorem dX5_init_8 : decode cX5_init 8 = .ok (.dup, 1) := by decide +kernel
theorem dX5_init_9 : decode cX5_init 9 = .ok (.invokespecial 9, 3) := by decide +kernel
theorem dX5_init_12 : decode cX5_init 12 = .ok (.putfield 10, 3) := by decide +kernel
theorem dX5_init_15 : decode cX5_init 15 = .ok (.aload_n 0, 1) := by decide +kernel
theorem dX5_init_16 : decode cX5_init 16 = .ok (.new 7, 3) := by decide +kernel
theorem dX5_init_19 : decode cX5_init 19 = .ok (.dup, 1) := by decide +kernel
theorem dX5_init_20 : decode cX5_init 20 = .ok (.invokespecial 9, 3) := by decide +kernel
theorem dX5_init_23 : decode cX5_init 23 = .ok (.putfield 16, 3) := by decide +kernel
theorem dX5_init_26 : decode cX5_init 26 = .ok (.aload_n 0, 1) := by decide +kernel
theorem dX5_init_27 : decode cX5_init 27 = .ok (.iconst 0, 1) := by decide +kernel
theorem dX5_init_28 : decode cX5_init 28 = .ok (.putfield 19, 3) := by decide +kernel
theorem dX5_init_31 : decode cX5_init 31 = .ok (.aload_n 0, 1) := by decide +kernel
theorem dX5_init_32 : decode cX5_init 32 = .ok (.new 7, 3) := by decide +kernel
theorem dX5_init_35 : decode cX5_init 35 = .ok (.dup, 1) := by decide +kernel
theorem dX5_init_36 : decode cX5_init 36 = .ok (.invokespecial 9, 3) := by decide +kernel
theorem dX5_init_39 : decode cX5_init 39 = .ok (.putfield 23, 3) := by decide +kernel
theorem dX5_init_42 : decode cX5_init 42 = .ok (.aload_n 0, 1) := by decide +kernel
theorem dX5_init_43 : decode cX5_init 43 = .ok (.new 26, 3) := by decide +kernel
theorem dX5_init_46 : decode cX5_init 46 = .ok (.dup, 1) := by decide +kernel
theorem dX5_init_47 : decode cX5_init 47 = .ok (.invokespecial 28, 3) := by decide +kernel
theorem dX5_init_50 : decode cX5_init 50 = .ok (.putfield 29, 3) := by decide +kernel
theorem dX5_init_53 : decode cX5_init 53 = .ok (.aload_n 0, 1) := by decide +kernel
theorem dX5_init_54 : decode cX5_init 54 = .ok (.new 33, 3) := by decide +kernel
theorem dX5_init_57 : decode cX5_init 57 = .ok (.dup, 1) := by decide +kernel
theorem dX5_init_58 : decode cX5_init 58 = .ok (.invokespecial 35, 3) := by decide +kernel
theorem dX5_init_61 : decode cX5_init 61 = .ok (.putfield 36, 3) := by decide +kernel
theorem dX5_init_64 : decode cX5_init 64 = .ok (.aload_n 0, 1) := by decide +kernel
theorem dX5_init_65 : decode cX5_init 65 = .ok (.new 40, 3) := by decide +kernel
theorem dX5_init_68 : decode cX5_init 68 = .ok (.dup, 1) := by decide +kernel
theorem dX5_init_69 : decode cX5_init 69 = .ok (.invokespecial 42, 3) := by decide +kernel
theorem dX5_init_72 : decode cX5_init 72 = .ok (.putfield 43, 3) := by decide +kernel
theorem dX5_init_75 : decode cX5_init 75 = .ok (.aload_n 0, 1) := by decide +kernel
theorem dX5_init_76 : decode cX5_init 76 = .ok (.new 47, 3) := by decide +kernel
theorem dX5_init_79 : decode cX5_init 79 = .ok (.dup, 1) := by decide +kernel
theorem dX5_init_80 : decode cX5_init 80 = .ok (.invokespecial 49, 3) := by decide +kernel
theorem dX5_init_83 : decode cX5_init 83 = .ok (.putfield 50, 3) := by decide +kernel
theorem dX5_init_86 : decode cX5_init 86 = .ok (.return_, 1) := by decide +kernel
theorem dX5_source_0 : decode cX5_source 0 = .ok (.iload_n 1, 1) := by decide +kernel
theorem dX5_source_1 : decode cX5_source 1 = .ok (.iload_n 2, 1) := by decide +kernel
theorem dX5_source_2 : decode cX5_source 2 = .ok (.invokestatic 54, 3) := by decide +kernel
theorem dX5_source_5 : decode cX5_source 5 = .ok (.ifCond .ne 6, 3) := by decide +kernel
theorem dX5_source_8 : decode cX5_source 8 = .ok (.ldc 58, 2) := by decide +kernel
theorem dX5_source_10 : decode cX5_source 10 = .ok (.ireturn, 1) := by decide +kernel
theorem dX5_source_11 : decode cX5_source 11 = .ok (.aload_n 0, 1) := by decide +kernel
theorem dX5_source_12 : decode cX5_source 12 = .ok (.iconst 0, 1) := by decide +kernel
theorem dX5_source_13 : decode cX5_source 13 = .ok (.iload_n 1, 1) := by decide +kernel
theorem dX5_source_14 : decode cX5_source 14 = .ok (.iload_n 2, 1) := by decide +kernel
theorem dX5_source_15 : decode cX5_source 15 = .ok (.iconst 0, 1) := by decide +kernel
theorem dX5_source_16 : decode cX5_source 16 = .ok (.invokevirtual 59, 3) := by decide +kernel
theorem dX5_source_19 : decode cX5_source 19 = .ok (.ireturn, 1) := by decide +kernel
theorem dX5_gate_0 : decode cX5_gate 0 = .ok (.aload_n 0, 1) := by decide +kernel
theorem dX5_gate_1 : decode cX5_gate 1 = .ok (.getfield 10, 3) := by decide +kernel
theorem dX5_gate_4 : decode cX5_gate 4 = .ok (.iload_n 2, 1) := by decide +kernel
theorem dX5_gate_5 : decode cX5_gate 5 = .ok (.invokevirtual 63, 3) := by decide +kernel
theorem dX5_gate_8 : decode cX5_gate 8 = .ok (.ifCond .eq 14, 3) := by decide +kernel
theorem dX5_gate_11 : decode cX5_gate 11 = .ok (.aload_n 0, 1) := by decide +kernel
theorem dX5_gate_12 : decode cX5_gate 12 = .ok (.getfield 10, 3) := by decide +kernel
theorem dX5_gate_15 : decode cX5_gate 15 = .ok (.iload_n 3, 1) := by decide +kernel
theorem dX5_gate_16 : decode cX5_gate 16 = .ok (.invokevirtual 63, 3) := by decide +kernel
theorem dX5_gate_19 : decode cX5_gate 19 = .ok (.ifCond .ne 6, 3) := by decide +kernel
theorem dX5_gate_22 : decode cX5_gate 22 = .ok (.ldc 67, 2) := by decide +kernel
theorem dX5_gate_24 : decode cX5_gate 24 = .ok (.ireturn, 1) := by decide +kernel
theorem dX5_gate_25 : decode cX5_gate 25 = .ok (.iload_n 1, 1) := by decide +kernel
theorem dX5_gate_26 : decode cX5_gate 26 = .ok (.iconst 1, 1) := by decide +kernel
theorem dX5_gate_27 : decode cX5_gate 27 = .ok (.iconst 3, 1) := by decide +kernel
theorem dX5_gate_28 : decode cX5_gate 28 = .ok (.invokestatic 68, 3) := by decide +kernel
theorem dX5_gate_31 : decode cX5_gate 31 = .ok (.ifCond .ne 6, 3) := by decide +kernel
theorem dX5_gate_34 : decode cX5_gate 34 = .ok (.ldc 58, 2) := by decide +kernel
theorem dX5_gate_36 : decode cX5_gate 36 = .ok (.ireturn, 1) := by decide +kernel
theorem dX5_gate_37 : decode cX5_gate 37 = .ok (.aload_n 0, 1) := by decide +kernel
theorem dX5_gate_38 : decode cX5_gate 38 = .ok (.iload_n 1, 1) := by decide +kernel
theorem dX5_gate_39 : decode cX5_gate 39 = .ok (.iload_n 2, 1) := by decide +kernel
theorem dX5_gate_40 : decode cX5_gate 40 = .ok (.iload_n 3, 1) := by decide +kernel
theorem dX5_gate_41 : decode cX5_gate 41 = .ok (.iconst 0, 1) := by decide +kernel
theorem dX5_gate_42 : decode cX5_gate 42 = .ok (.invokevirtual 59, 3) := by decide +kernel
theorem dX5_gate_45 : decode cX5_gate 45 = .ok (.ireturn, 1) := by decide +kernel
theorem dX5_choose_0 : decode cX5_choose 0 = .ok (.aload_n 0, 1) := by decide +kernel
theorem dX5_choose_1 : decode cX5_choose 1 = .ok (.getfield 10, 3) := by decide +kernel
theorem dX5_choose_4 : decode cX5_choose 4 = .ok (.iload_n 1, 1) := by decide +kernel
theorem dX5_choose_5 : decode cX5_choose 5 = .ok (.invokevirtual 63, 3) := by decide +kernel
theorem dX5_choose_8 : decode cX5_choose 8 = .ok (.ifCond .eq 25, 3) := by decide +kernel
theorem dX5_choose_11 : decode cX5_choose 11 = .ok (.aload_n 0, 1) := by decide +kernel
theorem dX5_choose_12 : decode cX5_choose 12 = .ok (.getfield 10, 3) := by decide +kernel
theorem dX5_choose_15 : decode cX5_choose 15 = .ok (.iload_n 2, 1) := by decide +kernel
theorem dX5_choose_16 : decode cX5_choose 16 = .ok (.invokevirtual 63, 3) := by decide +kernel
theorem dX5_choose_19 : decode cX5_choose 19 = .ok (.ifCond .eq 14, 3) := by decide +kernel
theorem dX5_choose_22 : decode cX5_choose 22 = .ok (.aload_n 0, 1) := by decide +kernel
theorem dX5_choose_23 : decode cX5_choose 23 = .ok (.getfield 10, 3) := by decide +kernel
theorem dX5_choose_26 : decode cX5_choose 26 = .ok (.iload_n 3, 1) := by decide +kernel
theorem dX5_choose_27 : decode cX5_choose 27 = .ok (.invokevirtual 63, 3) := by decide +kernel
theorem dX5_choose_30 : decode cX5_choose 30 = .ok (.ifCond .ne 6, 3) := by decide +kernel
theorem dX5_choose_33 : decode cX5_choose 33 = .ok (.ldc 67, 2) := by decide +kernel
theorem dX5_choose_35 : decode cX5_choose 35 = .ok (.ireturn, 1) := by decide +kernel
theorem dX5_choose_36 : decode cX5_choose 36 = .ok (.aload_n 0, 1) := by decide +kernel
theorem dX5_choose_37 : decode cX5_choose 37 = .ok (.iconst 4, 1) := by decide +kernel
theorem dX5_choose_38 : decode cX5_choose 38 = .ok (.iload_n 1, 1) := by decide +kernel
theorem dX5_choose_39 : decode cX5_choose 39 = .ok (.iload_n 2, 1) := by decide +kernel
theorem dX5_choose_40 : decode cX5_choose 40 = .ok (.iload_n 3, 1) := by decide +kernel
theorem dX5_choose_41 : decode cX5_choose 41 = .ok (.invokevirtual 59, 3) := by decide +kernel
theorem dX5_choose_44 : decode cX5_choose 44 = .ok (.ireturn, 1) := by decide +kernel
theorem dX5_turn_0 : decode cX5_turn 0 = .ok (.aload_n 0, 1) := by decide +kernel
theorem dX5_turn_1 : decode cX5_turn 1 = .ok (.getfield 10, 3) := by decide +kernel
theorem dX5_turn_4 : decode cX5_turn 4 = .ok (.iload_n 1, 1) := by decide +kernel
theorem dX5_turn_5 : decode cX5_turn 5 = .ok (.invokevirtual 63, 3) := by decide +kernel
theorem dX5_turn_8 : decode cX5_turn 8 = .ok (.ifCond .ne 6, 3) := by decide +kernel
theorem dX5_turn_11 : decode cX5_turn 11 = .ok (.ldc 67, 2) := by decide +kernel
theorem dX5_turn_13 : decode cX5_turn 13 = .ok (.ireturn, 1) := by decide +kernel
theorem dX5_turn_14 : decode cX5_turn 14 = .ok (.aload_n 0, 1) := by decide +kernel
theorem dX5_turn_15 : decode cX5_turn 15 = .ok (.iconst 5, 1) := by decide +kernel
theorem dX5_turn_16 : decode cX5_turn 16 = .ok (.iload_n 1, 1) := by decide +kernel
theorem dX5_turn_17 : decode cX5_turn 17 = .ok (.iconst 0, 1) := by decide +kernel
theorem dX5_turn_18 : decode cX5_turn 18 = .ok (.iconst 0, 1) := by decide +kernel
theorem dX5_turn_19 : decode cX5_turn 19 = .ok (.invokevirtual 59, 3) := by decide +kernel
theorem dX5_turn_22 : decode cX5_turn 22 = .ok (.ireturn, 1) := by decide +kernel
theorem dX5_delay_0 : decode cX5_delay 0 = .ok (.aload_n 0, 1) := by decide +kernel
theorem dX5_delay_1 : decode cX5_delay 1 = .ok (.getfield 10, 3) := by decide +kernel
theorem dX5_delay_4 : decode cX5_delay 4 = .ok (.iload_n 1, 1) := by decide +kernel
theorem dX5_delay_5 : decode cX5_delay 5 = .ok (.invokevirtual 63, 3) := by decide +kernel
theorem dX5_delay_8 : decode cX5_delay 8 = .ok (.ifCond .ne 6, 3) := by decide +kernel
theorem dX5_delay_11 : decode cX5_delay 11 = .ok (.ldc 67, 2) := by decide +kernel
theorem dX5_delay_13 : decode cX5_delay 13 = .ok (.ireturn, 1) := by decide +kernel
theorem dX5_delay_14 : decode cX5_delay 14 = .ok (.iload_n 2, 1) := by decide +kernel
theorem dX5_delay_15 : decode cX5_delay 15 = .ok (.iconst 1, 1) := by decide +kernel
theorem dX5_delay_16 : decode cX5_delay 16 = .ok (.bipush 60, 2) := by decide +kernel
theorem dX5_delay_18 : decode cX5_delay 18 = .ok (.invokestatic 68, 3) := by decide +kernel
theorem dX5_delay_21 : decode cX5_delay 21 = .ok (.ifCond .ne 6, 3) := by decide +kernel
theorem dX5_delay_24 : decode cX5_delay 24 = .ok (.ldc 58, 2) := by decide +kernel
theorem dX5_delay_26 : decode cX5_delay 26 = .ok (.ireturn, 1) := by decide +kernel
theorem dX5_delay_27 : decode cX5_delay 27 = .ok (.aload_n 0, 1) := by decide +kernel
theorem dX5_delay_28 : decode cX5_delay 28 = .ok (.bipush 6, 2) := by decide +kernel
theorem dX5_delay_30 : decode cX5_delay 30 = .ok (.iload_n 1, 1) := by decide +kernel
theorem dX5_delay_31 : decode cX5_delay 31 = .ok (.iload_n 2, 1) := by decide +kernel
theorem dX5_delay_32 : decode cX5_delay 32 = .ok (.iconst 0, 1) := by decide +kernel
theorem dX5_delay_33 : decode cX5_delay 33 = .ok (.invokevirtual 59, 3) := by decide +kernel
theorem dX5_delay_36 : decode cX5_delay 36 = .ok (.ireturn, 1) := by decide +kernel
theorem dX5_reseed_0 : decode cX5_reseed 0 = .ok (.aload_n 0, 1) := by decide +kernel
theorem dX5_reseed_1 : decode cX5_reseed 1 = .ok (.getfield 10, 3) := by decide +kernel
theorem dX5_reseed_4 : decode cX5_reseed 4 = .ok (.iload_n 1, 1) := by decide +kernel
theorem dX5_reseed_5 : decode cX5_reseed 5 = .ok (.invokevirtual 63, 3) := by decide +kernel
theorem dX5_reseed_8 : decode cX5_reseed 8 = .ok (.ifCond .ne 6, 3) := by decide +kernel
theorem dX5_reseed_11 : decode cX5_reseed 11 = .ok (.ldc 67, 2) := by decide +kernel
theorem dX5_reseed_13 : decode cX5_reseed 13 = .ok (.ireturn, 1) := by decide +kernel
theorem dX5_reseed_14 : decode cX5_reseed 14 = .ok (.iload_n 2, 1) := by decide +kernel
theorem dX5_reseed_15 : decode cX5_reseed 15 = .ok (.iload_n 3, 1) := by decide +kernel
theorem dX5_reseed_16 : decode cX5_reseed 16 = .ok (.invokestatic 54, 3) := by decide +kernel
theorem dX5_reseed_19 : decode cX5_reseed 19 = .ok (.ifCond .ne 6, 3) := by decide +kernel
theorem dX5_reseed_22 : decode cX5_reseed 22 = .ok (.ldc 58, 2) := by decide +kernel
theorem dX5_reseed_24 : decode cX5_reseed 24 = .ok (.ireturn, 1) := by decide +kernel
theorem dX5_reseed_25 : decode cX5_reseed 25 = .ok (.aload_n 0, 1) := by decide +kernel
theorem dX5_reseed_26 : decode cX5_reseed 26 = .ok (.getfield 10, 3) := by decide +kernel
theorem dX5_reseed_29 : decode cX5_reseed 29 = .ok (.iload_n 1, 1) := by decide +kernel
theorem dX5_reseed_30 : decode cX5_reseed 30 = .ok (.invokevirtual 72, 3) := by decide +kernel
theorem dX5_reseed_33 : decode cX5_reseed 33 = .ok (.ifCond .eq 6, 3) := by decide +kernel
theorem dX5_reseed_36 : decode cX5_reseed 36 = .ok (.ldc 76, 2) := by decide +kernel
theorem dX5_reseed_38 : decode cX5_reseed 38 = .ok (.ireturn, 1) := by decide +kernel
theorem dX5_reseed_39 : decode cX5_reseed 39 = .ok (.aload_n 0, 1) := by decide +kernel
theorem dX5_reseed_40 : decode cX5_reseed 40 = .ok (.getfield 10, 3) := by decide +kernel
theorem dX5_reseed_43 : decode cX5_reseed 43 = .ok (.iload_n 1, 1) := by decide +kernel
theorem dX5_reseed_44 : decode cX5_reseed 44 = .ok (.iconst 1, 1) := by decide +kernel
theorem dX5_reseed_45 : decode cX5_reseed 45 = .ok (.invokevirtual 77, 3) := by decide +kernel
theorem dX5_reseed_48 : decode cX5_reseed 48 = .ok (.istore 4, 2) := by decide +kernel
theorem dX5_reseed_50 : decode cX5_reseed 50 = .ok (.iload 4, 2) := by decide +kernel
theorem dX5_reseed_52 : decode cX5_reseed 52 = .ok (.iload_n 2, 1) := by decide +kernel
theorem dX5_reseed_53 : decode cX5_reseed 53 = .ok (.if_icmp .ne 19, 3) := by decide +kernel
theorem dX5_reseed_56 : decode cX5_reseed 56 = .ok (.aload_n 0, 1) := by decide +kernel
theorem dX5_reseed_57 : decode cX5_reseed 57 = .ok (.getfield 10, 3) := by decide +kernel
theorem dX5_reseed_60 : decode cX5_reseed 60 = .ok (.iload_n 1, 1) := by decide +kernel
theorem dX5_reseed_61 : decode cX5_reseed 61 = .ok (.iconst 2, 1) := by decide +kernel
theorem dX5_reseed_62 : decode cX5_reseed 62 = .ok (.invokevirtual 77, 3) := by decide +kernel
theorem dX5_reseed_65 : decode cX5_reseed 65 = .ok (.iload_n 3, 1) := by decide +kernel
theorem dX5_reseed_66 : decode cX5_reseed 66 = .ok (.if_icmp .ne 6, 3) := by decide +kernel
theorem dX5_reseed_69 : decode cX5_reseed 69 = .ok (.ldc 81, 2) := by decide +kernel
theorem dX5_reseed_71 : decode cX5_reseed 71 = .ok (.ireturn, 1) := by decide +kernel
theorem dX5_reseed_72 : decode cX5_reseed 72 = .ok (.aload_n 0, 1) := by decide +kernel
theorem dX5_reseed_73 : decode cX5_reseed 73 = .ok (.getfield 29, 3) := by decide +kernel
theorem dX5_reseed_76 : decode cX5_reseed 76 = .ok (.aload_n 0, 1) := by decide +kernel
theorem dX5_reseed_77 : decode cX5_reseed 77 = .ok (.getfield 10, 3) := by decide +kernel
theorem dX5_reseed_80 : decode cX5_reseed 80 = .ok (.invokevirtual 82, 3) := by decide +kernel
theorem dX5_reseed_83 : decode cX5_reseed 83 = .ok (.aload_n 0, 1) := by decide +kernel
theorem dX5_reseed_84 : decode cX5_reseed 84 = .ok (.getfield 10, 3) := by decide +kernel
theorem dX5_reseed_87 : decode cX5_reseed 87 = .ok (.iload_n 1, 1) := by decide +kernel
theorem dX5_reseed_88 : decode cX5_reseed 88 = .ok (.iload_n 2, 1) := by decide +kernel
theorem dX5_reseed_89 : decode cX5_reseed 89 = .ok (.iload_n 3, 1) := by decide +kernel
theorem dX5_reseed_90 : decode cX5_reseed 90 = .ok (.invokevirtual 86, 3) := by decide +kernel
theorem dX5_reseed_93 : decode cX5_reseed 93 = .ok (.iload 4, 2) := by decide +kernel
theorem dX5_reseed_95 : decode cX5_reseed 95 = .ok (.ireturn, 1) := by decide +kernel
theorem dX5_removeLast_0 : decode cX5_removeLast 0 = .ok (.aload_n 0, 1) := by decide +kernel
theorem dX5_removeLast_1 : decode cX5_removeLast 1 = .ok (.getfield 10, 3) := by decide +kernel
theorem dX5_removeLast_4 : decode cX5_removeLast 4 = .ok (.getfield 90, 3) := by decide +kernel
theorem dX5_removeLast_7 : decode cX5_removeLast 7 = .ok (.ifCond .ne 6, 3) := by decide +kernel
theorem dX5_removeLast_10 : decode cX5_removeLast 10 = .ok (.ldc 81, 2) := by decide +kernel
theorem dX5_removeLast_12 : decode cX5_removeLast 12 = .ok (.ireturn, 1) := by decide +kernel
theorem dX5_removeLast_13 : decode cX5_removeLast 13 = .ok (.aload_n 0, 1) := by decide +kernel
theorem dX5_removeLast_14 : decode cX5_removeLast 14 = .ok (.getfield 29, 3) := by decide +kernel
theorem dX5_removeLast_17 : decode cX5_removeLast 17 = .ok (.aload_n 0, 1) := by decide +kernel
theorem dX5_removeLast_18 : decode cX5_removeLast 18 = .ok (.getfield 10, 3) := by decide +kernel
theorem dX5_removeLast_21 : decode cX5_removeLast 21 = .ok (.invokevirtual 82, 3) := by decide +kernel
theorem dX5_removeLast_24 : decode cX5_removeLast 24 = .ok (.aload_n 0, 1) := by decide +kernel
theorem dX5_removeLast_25 : decode cX5_removeLast 25 = .ok (.getfield 10, 3) := by decide +kernel
theorem dX5_removeLast_28 : decode cX5_removeLast 28 = .ok (.invokevirtual 94, 3) := by decide +kernel
theorem dX5_removeLast_31 : decode cX5_removeLast 31 = .ok (.aload_n 0, 1) := by decide +kernel
theorem dX5_removeLast_32 : decode cX5_removeLast 32 = .ok (.getfield 10, 3) := by decide +kernel
theorem dX5_removeLast_35 : decode cX5_removeLast 35 = .ok (.getfield 90, 3) := by decide +kernel
theorem dX5_removeLast_38 : decode cX5_removeLast 38 = .ok (.ireturn, 1) := by decide +kernel
theorem dX5_setLength_0 : decode cX5_setLength 0 = .ok (.iload_n 1, 1) := by decide +kernel
theorem dX5_setLength_1 : decode cX5_setLength 1 = .ok (.iconst 1, 1) := by decide +kernel
theorem dX5_setLength_2 : decode cX5_setLength 2 = .ok (.sipush 1000, 3) := by decide +kernel
theorem dX5_setLength_5 : decode cX5_setLength 5 = .ok (.invokestatic 68, 3) := by decide +kernel
theorem dX5_setLength_8 : decode cX5_setLength 8 = .ok (.ifCond .ne 6, 3) := by decide +kernel
theorem dX5_setLength_11 : decode cX5_setLength 11 = .ok (.ldc 58, 2) := by decide +kernel
theorem dX5_setLength_13 : decode cX5_setLength 13 = .ok (.ireturn, 1) := by decide +kernel
theorem dX5_setLength_14 : decode cX5_setLength 14 = .ok (.aload_n 0, 1) := by decide +kernel
theorem dX5_setLength_15 : decode cX5_setLength 15 = .ok (.getfield 10, 3) := by decide +kernel
theorem dX5_setLength_18 : decode cX5_setLength 18 = .ok (.getfield 97, 3) := by decide +kernel
theorem dX5_setLength_21 : decode cX5_setLength 21 = .ok (.istore_n 2, 1) := by decide +kernel
theorem dX5_setLength_22 : decode cX5_setLength 22 = .ok (.iload_n 2, 1) := by decide +kernel
theorem dX5_setLength_23 : decode cX5_setLength 23 = .ok (.iload_n 1, 1) := by decide +kernel
theorem dX5_setLength_24 : decode cX5_setLength 24 = .ok (.if_icmp .ne 6, 3) := by decide +kernel
theorem dX5_setLength_27 : decode cX5_setLength 27 = .ok (.ldc 81, 2) := by decide +kernel
theorem dX5_setLength_29 : decode cX5_setLength 29 = .ok (.ireturn, 1) := by decide +kernel
theorem dX5_setLength_30 : decode cX5_setLength 30 = .ok (.aload_n 0, 1) := by decide +kernel
theorem dX5_setLength_31 : decode cX5_setLength 31 = .ok (.getfield 29, 3) := by decide +kernel
theorem dX5_setLength_34 : decode cX5_setLength 34 = .ok (.aload_n 0, 1) := by decide +kernel
theorem dX5_setLength_35 : decode cX5_setLength 35 = .ok (.getfield 10, 3) := by decide +kernel
theorem dX5_setLength_38 : decode cX5_setLength 38 = .ok (.invokevirtual 82, 3) := by decide +kernel
theorem dX5_setLength_41 : decode cX5_setLength 41 = .ok (.aload_n 0, 1) := by decide +kernel
theorem dX5_setLength_42 : decode cX5_setLength 42 = .ok (.getfield 10, 3) := by decide +kernel
theorem dX5_setLength_45 : decode cX5_setLength 45 = .ok (.iload_n 1, 1) := by decide +kernel
theorem dX5_setLength_46 : decode cX5_setLength 46 = .ok (.putfield 97, 3) := by decide +kernel
theorem dX5_setLength_49 : decode cX5_setLength 49 = .ok (.iload_n 2, 1) := by decide +kernel
theorem dX5_setLength_50 : decode cX5_setLength 50 = .ok (.ireturn, 1) := by decide +kernel
theorem dX5_line_0 : decode cX5_line 0 = .ok (.aload_n 0, 1) := by decide +kernel
theorem dX5_line_1 : decode cX5_line 1 = .ok (.getfield 10, 3) := by decide +kernel
theorem dX5_line_4 : decode cX5_line 4 = .ok (.iload_n 1, 1) := by decide +kernel
theorem dX5_line_5 : decode cX5_line 5 = .ok (.invokevirtual 63, 3) := by decide +kernel
theorem dX5_line_8 : decode cX5_line 8 = .ok (.ifCond .ne 6, 3) := by decide +kernel
theorem dX5_line_11 : decode cX5_line 11 = .ok (.ldc 67, 2) := by decide +kernel
theorem dX5_line_13 : decode cX5_line 13 = .ok (.ireturn, 1) := by decide +kernel
theorem dX5_line_14 : decode cX5_line 14 = .ok (.iload_n 2, 1) := by decide +kernel
theorem dX5_line_15 : decode cX5_line 15 = .ok (.tableswitch 201 0 9 #[53, 62, 62, 62, 92, 105, 128, 148, 161, 181], 53) := by decide +kernel
theorem dX5_line_68 : decode cX5_line 68 = .ok (.aload_n 0, 1) := by decide +kernel
theorem dX5_line_69 : decode cX5_line 69 = .ok (.getfield 10, 3) := by decide +kernel
theorem dX5_line_72 : decode cX5_line 72 = .ok (.iload_n 1, 1) := by decide +kernel
theorem dX5_line_73 : decode cX5_line 73 = .ok (.invokevirtual 72, 3) := by decide +kernel
theorem dX5_line_76 : decode cX5_line 76 = .ok (.ireturn, 1) := by decide +kernel
theorem dX5_line_77 : decode cX5_line 77 = .ok (.iload_n 2, 1) := by decide +kernel
theorem dX5_line_78 : decode cX5_line 78 = .ok (.aload_n 0, 1) := by decide +kernel
theorem dX5_line_79 : decode cX5_line 79 = .ok (.getfield 10, 3) := by decide +kernel
theorem dX5_line_82 : decode cX5_line 82 = .ok (.iload_n 1, 1) := by decide +kernel
theorem dX5_line_83 : decode cX5_line 83 = .ok (.invokevirtual 72, 3) := by decide +kernel
theorem dX5_line_86 : decode cX5_line 86 = .ok (.invokestatic 125, 3) := by decide +kernel
theorem dX5_line_89 : decode cX5_line 89 = .ok (.if_icmp .le 8, 3) := by decide +kernel
theorem dX5_line_92 : decode cX5_line 92 = .ok (.ldc 81, 2) := by decide +kernel
theorem dX5_line_94 : decode cX5_line 94 = .ok (.goto 12, 3) := by decide +kernel
theorem dX5_line_97 : decode cX5_line 97 = .ok (.aload_n 0, 1) := by decide +kernel
theorem dX5_line_98 : decode cX5_line 98 = .ok (.getfield 10, 3) := by decide +kernel
theorem dX5_line_101 : decode cX5_line 101 = .ok (.iload_n 1, 1) := by decide +kernel
theorem dX5_line_102 : decode cX5_line 102 = .ok (.iload_n 2, 1) := by decide +kernel
theorem dX5_line_103 : decode cX5_line 103 = .ok (.invokevirtual 77, 3) := by decide +kernel
theorem dX5_line_106 : decode cX5_line 106 = .ok (.ireturn, 1) := by decide +kernel
theorem dX5_line_107 : decode cX5_line 107 = .ok (.aload_n 0, 1) := by decide +kernel
theorem dX5_line_108 : decode cX5_line 108 = .ok (.iload_n 1, 1) := by decide +kernel
theorem dX5_line_109 : decode cX5_line 109 = .ok (.aload_n 0, 1) := by decide +kernel
theorem dX5_line_110 : decode cX5_line 110 = .ok (.getfield 10, 3) := by decide +kernel
theorem dX5_line_113 : decode cX5_line 113 = .ok (.getfield 97, 3) := by decide +kernel
theorem dX5_line_116 : decode cX5_line 116 = .ok (.invokevirtual 128, 3) := by decide +kernel
theorem dX5_line_119 : decode cX5_line 119 = .ok (.ireturn, 1) := by decide +kernel
theorem dX5_line_120 : decode cX5_line 120 = .ok (.aload_n 0, 1) := by decide +kernel
theorem dX5_line_121 : decode cX5_line 121 = .ok (.iload_n 1, 1) := by decide +kernel
theorem dX5_line_122 : decode cX5_line 122 = .ok (.aload_n 0, 1) := by decide +kernel
theorem dX5_line_123 : decode cX5_line 123 = .ok (.getfield 10, 3) := by decide +kernel
theorem dX5_line_126 : decode cX5_line 126 = .ok (.getfield 97, 3) := by decide +kernel
theorem dX5_line_129 : decode cX5_line 129 = .ok (.invokevirtual 128, 3) := by decide +kernel
theorem dX5_line_132 : decode cX5_line 132 = .ok (.aload_n 0, 1) := by decide +kernel
theorem dX5_line_133 : decode cX5_line 133 = .ok (.getfield 10, 3) := by decide +kernel
theorem dX5_line_136 : decode cX5_line 136 = .ok (.getfield 97, 3) := by decide +kernel
theorem dX5_line_139 : decode cX5_line 139 = .ok (.invokestatic 131, 3) := by decide +kernel
theorem dX5_line_142 : decode cX5_line 142 = .ok (.ireturn, 1) := by decide +kernel
theorem dX5_line_143 : decode cX5_line 143 = .ok (.aload_n 0, 1) := by decide +kernel
theorem dX5_line_144 : decode cX5_line 144 = .ok (.getfield 43, 3) := by decide +kernel
theorem dX5_line_147 : decode cX5_line 147 = .ok (.aload_n 0, 1) := by decide +kernel
theorem dX5_line_148 : decode cX5_line 148 = .ok (.getfield 10, 3) := by decide +kernel
theorem dX5_line_151 : decode cX5_line 151 = .ok (.invokevirtual 134, 3) := by decide +kernel
theorem dX5_line_154 : decode cX5_line 154 = .ok (.aload_n 0, 1) := by decide +kernel
theorem dX5_line_155 : decode cX5_line 155 = .ok (.getfield 43, 3) := by decide +kernel
theorem dX5_line_158 : decode cX5_line 158 = .ok (.iload_n 1, 1) := by decide +kernel
theorem dX5_line_159 : decode cX5_line 159 = .ok (.invokevirtual 137, 3) := by decide +kernel
theorem dX5_line_162 : decode cX5_line 162 = .ok (.ireturn, 1) := by decide +kernel
theorem dX5_line_163 : decode cX5_line 163 = .ok (.aload_n 0, 1) := by decide +kernel
theorem dX5_line_164 : decode cX5_line 164 = .ok (.iload_n 1, 1) := by decide +kernel
theorem dX5_line_165 : decode cX5_line 165 = .ok (.aload_n 0, 1) := by decide +kernel
theorem dX5_line_166 : decode cX5_line 166 = .ok (.getfield 10, 3) := by decide +kernel
theorem dX5_line_169 : decode cX5_line 169 = .ok (.getfield 97, 3) := by decide +kernel
theorem dX5_line_172 : decode cX5_line 172 = .ok (.invokevirtual 140, 3) := by decide +kernel
theorem dX5_line_175 : decode cX5_line 175 = .ok (.ireturn, 1) := by decide +kernel
theorem dX5_line_176 : decode cX5_line 176 = .ok (.aload_n 0, 1) := by decide +kernel
theorem dX5_line_177 : decode cX5_line 177 = .ok (.getfield 43, 3) := by decide +kernel
theorem dX5_line_180 : decode cX5_line 180 = .ok (.aload_n 0, 1) := by decide +kernel
theorem dX5_line_181 : decode cX5_line 181 = .ok (.getfield 10, 3) := by decide +kernel
theorem dX5_line_184 : decode cX5_line 184 = .ok (.invokevirtual 134, 3) := by decide +kernel
theorem dX5_line_187 : decode cX5_line 187 = .ok (.aload_n 0, 1) := by decide +kernel
theorem dX5_line_188 : decode cX5_line 188 = .ok (.getfield 43, 3) := by decide +kernel
theorem dX5_line_191 : decode cX5_line 191 = .ok (.iload_n 1, 1) := by decide +kernel
theorem dX5_line_192 : decode cX5_line 192 = .ok (.invokevirtual 143, 3) := by decide +kernel
theorem dX5_line_195 : decode cX5_line 195 = .ok (.ireturn, 1) := by decide +kernel
theorem dX5_line_196 : decode cX5_line 196 = .ok (.aload_n 0, 1) := by decide +kernel
theorem dX5_line_197 : decode cX5_line 197 = .ok (.getfield 43, 3) := by decide +kernel
theorem dX5_line_200 : decode cX5_line 200 = .ok (.aload_n 0, 1) := by decide +kernel
theorem dX5_line_201 : decode cX5_line 201 = .ok (.getfield 10, 3) := by decide +kernel
theorem dX5_line_204 : decode cX5_line 204 = .ok (.invokevirtual 134, 3) := by decide +kernel
theorem dX5_line_207 : decode cX5_line 207 = .ok (.aload_n 0, 1) := by decide +kernel
theorem dX5_line_208 : decode cX5_line 208 = .ok (.getfield 43, 3) := by decide +kernel
theorem dX5_line_211 : decode cX5_line 211 = .ok (.iload_n 1, 1) := by decide +kernel
theorem dX5_line_212 : decode cX5_line 212 = .ok (.invokevirtual 146, 3) := by decide +kernel
theorem dX5_line_215 : decode cX5_line 215 = .ok (.ireturn, 1) := by decide +kernel
theorem dX5_line_216 : decode cX5_line 216 = .ok (.ldc 58, 2) := by decide +kernel
theorem dX5_line_218 : decode cX5_line 218 = .ok (.ireturn, 1) := by decide +kernel
theorem dX5_bit_0 : decode cX5_bit 0 = .ok (.aload_n 0, 1) := by decide +kernel
theorem dX5_bit_1 : decode cX5_bit 1 = .ok (.getfield 10, 3) := by decide +kernel
theorem dX5_bit_4 : decode cX5_bit 4 = .ok (.iload_n 1, 1) := by decide +kernel
theorem dX5_bit_5 : decode cX5_bit 5 = .ok (.invokevirtual 63, 3) := by decide +kernel
theorem dX5_bit_8 : decode cX5_bit 8 = .ok (.ifCond .ne 6, 3) := by decide +kernel
theorem dX5_bit_11 : decode cX5_bit 11 = .ok (.ldc 67, 2) := by decide +kernel
theorem dX5_bit_13 : decode cX5_bit 13 = .ok (.ireturn, 1) := by decide +kernel
theorem dX5_bit_14 : decode cX5_bit 14 = .ok (.iload_n 2, 1) := by decide +kernel
theorem dX5_bit_15 : decode cX5_bit 15 = .ok (.iconst 0, 1) := by decide +kernel
theorem dX5_bit_16 : decode cX5_bit 16 = .ok (.sipush 999, 3) := by decide +kernel
theorem dX5_bit_19 : decode cX5_bit 19 = .ok (.invokestatic 68, 3) := by decide +kernel
theorem dX5_bit_22 : decode cX5_bit 22 = .ok (.ifCond .ne 6, 3) := by decide +kernel
theorem dX5_bit_25 : decode cX5_bit 25 = .ok (.ldc 58, 2) := by decide +kernel
theorem dX5_bit_27 : decode cX5_bit 27 = .ok (.ireturn, 1) := by decide +kernel
theorem dX5_bit_28 : decode cX5_bit 28 = .ok (.aload_n 0, 1) := by decide +kernel
theorem dX5_bit_29 : decode cX5_bit 29 = .ok (.getfield 50, 3) := by decide +kernel
theorem dX5_bit_32 : decode cX5_bit 32 = .ok (.aload_n 0, 1) := by decide +kernel
theorem dX5_bit_33 : decode cX5_bit 33 = .ok (.getfield 10, 3) := by decide +kernel
theorem dX5_bit_36 : decode cX5_bit 36 = .ok (.iload_n 1, 1) := by decide +kernel
theorem dX5_bit_37 : decode cX5_bit 37 = .ok (.iload_n 2, 1) := by decide +kernel
theorem dX5_bit_38 : decode cX5_bit 38 = .ok (.iconst 1, 1) := by decide +kernel
theorem dX5_bit_39 : decode cX5_bit 39 = .ok (.iadd, 1) := by decide +kernel
theorem dX5_bit_40 : decode cX5_bit 40 = .ok (.invokevirtual 149, 3) := by decide +kernel
theorem dX5_bit_43 : decode cX5_bit 43 = .ok (.aload_n 0, 1) := by decide +kernel
theorem dX5_bit_44 : decode cX5_bit 44 = .ok (.getfield 50, 3) := by decide +kernel
theorem dX5_bit_47 : decode cX5_bit 47 = .ok (.iload_n 1, 1) := by decide +kernel
theorem dX5_bit_48 : decode cX5_bit 48 = .ok (.iload_n 2, 1) := by decide +kernel
theorem dX5_bit_49 : decode cX5_bit 49 = .ok (.invokevirtual 153, 3) := by decide +kernel
theorem dX5_bit_52 : decode cX5_bit 52 = .ok (.ireturn, 1) := by decide +kernel
theorem dX5_overlap_0 : decode cX5_overlap 0 = .ok (.aload_n 0, 1) := by decide +kernel
theorem dX5_overlap_1 : decode cX5_overlap 1 = .ok (.getfield 10, 3) := by decide +kernel
theorem dX5_overlap_4 : decode cX5_overlap 4 = .ok (.iload_n 1, 1) := by decide +kernel
theorem dX5_overlap_5 : decode cX5_overlap 5 = .ok (.invokevirtual 63, 3) := by decide +kernel
theorem dX5_overlap_8 : decode cX5_overlap 8 = .ok (.ifCond .eq 14, 3) := by decide +kernel
theorem dX5_overlap_11 : decode cX5_overlap 11 = .ok (.aload_n 0, 1) := by decide +kernel
theorem dX5_overlap_12 : decode cX5_overlap 12 = .ok (.getfield 10, 3) := by decide +kernel
theorem dX5_overlap_15 : decode cX5_overlap 15 = .ok (.iload_n 2, 1) := by decide +kernel
theorem dX5_overlap_16 : decode cX5_overlap 16 = .ok (.invokevirtual 63, 3) := by decide +kernel
theorem dX5_overlap_19 : decode cX5_overlap 19 = .ok (.ifCond .ne 6, 3) := by decide +kernel
theorem dX5_overlap_22 : decode cX5_overlap 22 = .ok (.ldc 67, 2) := by decide +kernel
theorem dX5_overlap_24 : decode cX5_overlap 24 = .ok (.ireturn, 1) := by decide +kernel
theorem dX5_overlap_25 : decode cX5_overlap 25 = .ok (.aload_n 0, 1) := by decide +kernel
theorem dX5_overlap_26 : decode cX5_overlap 26 = .ok (.getfield 10, 3) := by decide +kernel
theorem dX5_overlap_29 : decode cX5_overlap 29 = .ok (.getfield 97, 3) := by decide +kernel
theorem dX5_overlap_32 : decode cX5_overlap 32 = .ok (.i2l, 1) := by decide +kernel
theorem dX5_overlap_33 : decode cX5_overlap 33 = .ok (.lstore_n 3, 1) := by decide +kernel
theorem dX5_overlap_34 : decode cX5_overlap 34 = .ok (.lload_n 3, 1) := by decide +kernel
theorem dX5_overlap_35 : decode cX5_overlap 35 = .ok (.lconst 1, 1) := by decide +kernel
theorem dX5_overlap_36 : decode cX5_overlap 36 = .ok (.lcmp, 1) := by decide +kernel
theorem dX5_overlap_37 : decode cX5_overlap 37 = .ok (.ifCond .ge 5, 3) := by decide +kernel
theorem dX5_overlap_40 : decode cX5_overlap 40 = .ok (.iconst 0, 1) := by decide +kernel
theorem dX5_overlap_41 : decode cX5_overlap 41 = .ok (.ireturn, 1) := by decide +kernel
theorem dX5_overlap_42 : decode cX5_overlap 42 = .ok (.aload_n 0, 1) := by decide +kernel
theorem dX5_overlap_43 : decode cX5_overlap 43 = .ok (.getfield 50, 3) := by decide +kernel
theorem dX5_overlap_46 : decode cX5_overlap 46 = .ok (.aload_n 0, 1) := by decide +kernel
theorem dX5_overlap_47 : decode cX5_overlap 47 = .ok (.getfield 10, 3) := by decide +kernel
theorem dX5_overlap_50 : decode cX5_overlap 50 = .ok (.iload_n 1, 1) := by decide +kernel
theorem dX5_overlap_51 : decode cX5_overlap 51 = .ok (.iload_n 2, 1) := by decide +kernel
theorem dX5_overlap_52 : decode cX5_overlap 52 = .ok (.invokestatic 156, 3) := by decide +kernel
theorem dX5_overlap_55 : decode cX5_overlap 55 = .ok (.aload_n 0, 1) := by decide +kernel
theorem dX5_overlap_56 : decode cX5_overlap 56 = .ok (.getfield 10, 3) := by decide +kernel
theorem dX5_overlap_59 : decode cX5_overlap 59 = .ok (.getfield 97, 3) := by decide +kernel
theorem dX5_overlap_62 : decode cX5_overlap 62 = .ok (.invokevirtual 149, 3) := by decide +kernel
theorem dX5_overlap_65 : decode cX5_overlap 65 = .ok (.aload_n 0, 1) := by decide +kernel
theorem dX5_overlap_66 : decode cX5_overlap 66 = .ok (.getfield 50, 3) := by decide +kernel
theorem dX5_overlap_69 : decode cX5_overlap 69 = .ok (.iload_n 1, 1) := by decide +kernel
theorem dX5_overlap_70 : decode cX5_overlap 70 = .ok (.iload_n 2, 1) := by decide +kernel
theorem dX5_overlap_71 : decode cX5_overlap 71 = .ok (.aload_n 0, 1) := by decide +kernel
theorem dX5_overlap_72 : decode cX5_overlap 72 = .ok (.getfield 10, 3) := by decide +kernel
theorem dX5_overlap_75 : decode cX5_overlap 75 = .ok (.getfield 97, 3) := by decide +kernel
theorem dX5_overlap_78 : decode cX5_overlap 78 = .ok (.invokevirtual 161, 3) := by decide +kernel
theorem dX5_overlap_81 : decode cX5_overlap 81 = .ok (.i2l, 1) := by decide +kernel
theorem dX5_overlap_82 : decode cX5_overlap 82 = .ok (.lstore 5, 2) := by decide +kernel
theorem dX5_overlap_84 : decode cX5_overlap 84 = .ok (.aload_n 0, 1) := by decide +kernel
theorem dX5_overlap_85 : decode cX5_overlap 85 = .ok (.getfield 50, 3) := by decide +kernel
theorem dX5_overlap_88 : decode cX5_overlap 88 = .ok (.iload_n 1, 1) := by decide +kernel
theorem dX5_overlap_89 : decode cX5_overlap 89 = .ok (.aload_n 0, 1) := by decide +kernel
theorem dX5_overlap_90 : decode cX5_overlap 90 = .ok (.getfield 10, 3) := by decide +kernel
theorem dX5_overlap_93 : decode cX5_overlap 93 = .ok (.getfield 97, 3) := by decide +kernel
theorem dX5_overlap_96 : decode cX5_overlap 96 = .ok (.invokevirtual 165, 3) := by decide +kernel
theorem dX5_overlap_99 : decode cX5_overlap 99 = .ok (.i2l, 1) := by decide +kernel
theorem dX5_overlap_100 : decode cX5_overlap 100 = .ok (.aload_n 0, 1) := by decide +kernel
theorem dX5_overlap_101 : decode cX5_overlap 101 = .ok (.getfield 50, 3) := by decide +kernel
theorem dX5_overlap_104 : decode cX5_overlap 104 = .ok (.iload_n 2, 1) := by decide +kernel
theorem dX5_overlap_105 : decode cX5_overlap 105 = .ok (.aload_n 0, 1) := by decide +kernel
theorem dX5_overlap_106 : decode cX5_overlap 106 = .ok (.getfield 10, 3) := by decide +kernel
theorem dX5_overlap_109 : decode cX5_overlap 109 = .ok (.getfield 97, 3) := by decide +kernel
theorem dX5_overlap_112 : decode cX5_overlap 112 = .ok (.invokevirtual 165, 3) := by decide +kernel
theorem dX5_overlap_115 : decode cX5_overlap 115 = .ok (.i2l, 1) := by decide +kernel
theorem dX5_overlap_116 : decode cX5_overlap 116 = .ok (.lmul, 1) := by decide +kernel
theorem dX5_overlap_117 : decode cX5_overlap 117 = .ok (.lstore 7, 2) := by decide +kernel
theorem dX5_overlap_119 : decode cX5_overlap 119 = .ok (.lload 5, 2) := by decide +kernel
theorem dX5_overlap_121 : decode cX5_overlap 121 = .ok (.lload_n 3, 1) := by decide +kernel
theorem dX5_overlap_122 : decode cX5_overlap 122 = .ok (.lmul, 1) := by decide +kernel
theorem dX5_overlap_123 : decode cX5_overlap 123 = .ok (.lload 7, 2) := by decide +kernel
theorem dX5_overlap_125 : decode cX5_overlap 125 = .ok (.lsub, 1) := by decide +kernel
theorem dX5_overlap_126 : decode cX5_overlap 126 = .ok (.ldc2_w 168, 3) := by decide +kernel
theorem dX5_overlap_129 : decode cX5_overlap 129 = .ok (.lmul, 1) := by decide +kernel
theorem dX5_overlap_130 : decode cX5_overlap 130 = .ok (.lload_n 3, 1) := by decide +kernel
theorem dX5_overlap_131 : decode cX5_overlap 131 = .ok (.lload_n 3, 1) := by decide +kernel
theorem dX5_overlap_132 : decode cX5_overlap 132 = .ok (.lmul, 1) := by decide +kernel
theorem dX5_overlap_133 : decode cX5_overlap 133 = .ok (.ldiv, 1) := by decide +kernel
theorem dX5_overlap_134 : decode cX5_overlap 134 = .ok (.l2i, 1) := by decide +kernel
theorem dX5_overlap_135 : decode cX5_overlap 135 = .ok (.ireturn, 1) := by decide +kernel
theorem dX5_errorAt_0 : decode cX5_errorAt 0 = .ok (.aload_n 0, 1) := by decide +kernel
theorem dX5_errorAt_1 : decode cX5_errorAt 1 = .ok (.getfield 10, 3) := by decide +kernel
theorem dX5_errorAt_4 : decode cX5_errorAt 4 = .ok (.iload_n 1, 1) := by decide +kernel
theorem dX5_errorAt_5 : decode cX5_errorAt 5 = .ok (.invokevirtual 63, 3) := by decide +kernel
theorem dX5_errorAt_8 : decode cX5_errorAt 8 = .ok (.ifCond .ne 6, 3) := by decide +kernel
theorem dX5_errorAt_11 : decode cX5_errorAt 11 = .ok (.ldc 67, 2) := by decide +kernel
theorem dX5_errorAt_13 : decode cX5_errorAt 13 = .ok (.ireturn, 1) := by decide +kernel
theorem dX5_errorAt_14 : decode cX5_errorAt 14 = .ok (.iload_n 2, 1) := by decide +kernel
theorem dX5_errorAt_15 : decode cX5_errorAt 15 = .ok (.iconst 1, 1) := by decide +kernel
theorem dX5_errorAt_16 : decode cX5_errorAt 16 = .ok (.sipush 1000, 3) := by decide +kernel
theorem dX5_errorAt_19 : decode cX5_errorAt 19 = .ok (.invokestatic 68, 3) := by decide +kernel
theorem dX5_errorAt_22 : decode cX5_errorAt 22 = .ok (.ifCond .ne 6, 3) := by decide +kernel
theorem dX5_errorAt_25 : decode cX5_errorAt 25 = .ok (.ldc 58, 2) := by decide +kernel
theorem dX5_errorAt_27 : decode cX5_errorAt 27 = .ok (.ireturn, 1) := by decide +kernel
theorem dX5_errorAt_28 : decode cX5_errorAt 28 = .ok (.aload_n 0, 1) := by decide +kernel
theorem dX5_errorAt_29 : decode cX5_errorAt 29 = .ok (.iload_n 1, 1) := by decide +kernel
theorem dX5_errorAt_30 : decode cX5_errorAt 30 = .ok (.iload_n 2, 1) := by decide +kernel
theorem dX5_errorAt_31 : decode cX5_errorAt 31 = .ok (.invokevirtual 140, 3) := by decide +kernel
theorem dX5_errorAt_34 : decode cX5_errorAt 34 = .ok (.ireturn, 1) := by decide +kernel
theorem dX5_settles_0 : decode cX5_settles 0 = .ok (.aload_n 0, 1) := by decide +kernel
theorem dX5_settles_1 : decode cX5_settles 1 = .ok (.getfield 10, 3) := by decide +kernel
theorem dX5_settles_4 : decode cX5_settles 4 = .ok (.iload_n 1, 1) := by decide +kernel
theorem dX5_settles_5 : decode cX5_settles 5 = .ok (.invokevirtual 63, 3) := by decide +kernel
theorem dX5_settles_8 : decode cX5_settles 8 = .ok (.ifCond .ne 6, 3) := by decide +kernel
theorem dX5_settles_11 : decode cX5_settles 11 = .ok (.ldc 67, 2) := by decide +kernel
theorem dX5_settles_13 : decode cX5_settles 13 = .ok (.ireturn, 1) := by decide +kernel
theorem dX5_settles_14 : decode cX5_settles 14 = .ok (.iload_n 2, 1) := by decide +kernel
theorem dX5_settles_15 : decode cX5_settles 15 = .ok (.iconst 0, 1) := by decide +kernel
theorem dX5_settles_16 : decode cX5_settles 16 = .ok (.ldc 170, 2) := by decide +kernel
theorem dX5_settles_18 : decode cX5_settles 18 = .ok (.invokestatic 68, 3) := by decide +kernel
theorem dX5_settles_21 : decode cX5_settles 21 = .ok (.ifCond .ne 6, 3) := by decide +kernel
theorem dX5_settles_24 : decode cX5_settles 24 = .ok (.ldc 58, 2) := by decide +kernel
theorem dX5_settles_26 : decode cX5_settles 26 = .ok (.ireturn, 1) := by decide +kernel
theorem dX5_settles_27 : decode cX5_settles 27 = .ok (.aload_n 0, 1) := by decide +kernel
theorem dX5_settles_28 : decode cX5_settles 28 = .ok (.iload_n 1, 1) := by decide +kernel
theorem dX5_settles_29 : decode cX5_settles 29 = .ok (.iload_n 2, 1) := by decide +kernel
theorem dX5_settles_30 : decode cX5_settles 30 = .ok (.invokevirtual 171, 3) := by decide +kernel
theorem dX5_settles_33 : decode cX5_settles 33 = .ok (.istore_n 3, 1) := by decide +kernel
theorem dX5_settles_34 : decode cX5_settles 34 = .ok (.iload_n 3, 1) := by decide +kernel
theorem dX5_settles_35 : decode cX5_settles 35 = .ok (.sipush 1000, 3) := by decide +kernel
theorem dX5_settles_38 : decode cX5_settles 38 = .ok (.if_icmp .ne 8, 3) := by decide +kernel
theorem dX5_settles_41 : decode cX5_settles 41 = .ok (.ldc 81, 2) := by decide +kernel
theorem dX5_settles_43 : decode cX5_settles 43 = .ok (.goto 6, 3) := by decide +kernel
theorem dX5_settles_46 : decode cX5_settles 46 = .ok (.iload_n 3, 1) := by decide +kernel
theorem dX5_settles_47 : decode cX5_settles 47 = .ok (.iconst 1, 1) := by decide +kernel
theorem dX5_settles_48 : decode cX5_settles 48 = .ok (.iadd, 1) := by decide +kernel
theorem dX5_settles_49 : decode cX5_settles 49 = .ok (.ireturn, 1) := by decide +kernel
theorem dX5_unlike_0 : decode cX5_unlike 0 = .ok (.aload_n 0, 1) := by decide +kernel
theorem dX5_unlike_1 : decode cX5_unlike 1 = .ok (.getfield 10, 3) := by decide +kernel
theorem dX5_unlike_4 : decode cX5_unlike 4 = .ok (.iload_n 1, 1) := by decide +kernel
theorem dX5_unlike_5 : decode cX5_unlike 5 = .ok (.invokevirtual 63, 3) := by decide +kernel
theorem dX5_unlike_8 : decode cX5_unlike 8 = .ok (.ifCond .ne 6, 3) := by decide +kernel
theorem dX5_unlike_11 : decode cX5_unlike 11 = .ok (.ldc 67, 2) := by decide +kernel
theorem dX5_unlike_13 : decode cX5_unlike 13 = .ok (.ireturn, 1) := by decide +kernel
theorem dX5_unlike_14 : decode cX5_unlike 14 = .ok (.aload_n 0, 1) := by decide +kernel
theorem dX5_unlike_15 : decode cX5_unlike 15 = .ok (.getfield 50, 3) := by decide +kernel
theorem dX5_unlike_18 : decode cX5_unlike 18 = .ok (.aload_n 0, 1) := by decide +kernel
theorem dX5_unlike_19 : decode cX5_unlike 19 = .ok (.getfield 10, 3) := by decide +kernel
theorem dX5_unlike_22 : decode cX5_unlike 22 = .ok (.iload_n 1, 1) := by decide +kernel
theorem dX5_unlike_23 : decode cX5_unlike 23 = .ok (.sipush 510, 3) := by decide +kernel
theorem dX5_unlike_26 : decode cX5_unlike 26 = .ok (.invokevirtual 149, 3) := by decide +kernel
theorem dX5_unlike_29 : decode cX5_unlike 29 = .ok (.iconst 0, 1) := by decide +kernel
theorem dX5_unlike_30 : decode cX5_unlike 30 = .ok (.istore_n 2, 1) := by decide +kernel
theorem dX5_unlike_31 : decode cX5_unlike 31 = .ok (.bipush 60, 2) := by decide +kernel
theorem dX5_unlike_33 : decode cX5_unlike 33 = .ok (.istore_n 3, 1) := by decide +kernel
theorem dX5_unlike_34 : decode cX5_unlike 34 = .ok (.iload_n 3, 1) := by decide +kernel
theorem dX5_unlike_35 : decode cX5_unlike 35 = .ok (.sipush 255, 3) := by decide +kernel
theorem dX5_unlike_38 : decode cX5_unlike 38 = .ok (.if_icmp .ge 37, 3) := by decide +kernel
theorem dX5_unlike_41 : decode cX5_unlike 41 = .ok (.aload_n 0, 1) := by decide +kernel
theorem dX5_unlike_42 : decode cX5_unlike 42 = .ok (.getfield 50, 3) := by decide +kernel
theorem dX5_unlike_45 : decode cX5_unlike 45 = .ok (.iload_n 1, 1) := by decide +kernel
theorem dX5_unlike_46 : decode cX5_unlike 46 = .ok (.iload_n 3, 1) := by decide +kernel
theorem dX5_unlike_47 : decode cX5_unlike 47 = .ok (.invokevirtual 153, 3) := by decide +kernel
theorem dX5_unlike_50 : decode cX5_unlike 50 = .ok (.aload_n 0, 1) := by decide +kernel
theorem dX5_unlike_51 : decode cX5_unlike 51 = .ok (.getfield 50, 3) := by decide +kernel
theorem dX5_unlike_54 : decode cX5_unlike 54 = .ok (.iload_n 1, 1) := by decide +kernel
theorem dX5_unlike_55 : decode cX5_unlike 55 = .ok (.iload_n 3, 1) := by decide +kernel
theorem dX5_unlike_56 : decode cX5_unlike 56 = .ok (.sipush 255, 3) := by decide +kernel
theorem dX5_unlike_59 : decode cX5_unlike 59 = .ok (.iadd, 1) := by decide +kernel
theorem dX5_unlike_60 : decode cX5_unlike 60 = .ok (.invokevirtual 153, 3) := by decide +kernel
theorem dX5_unlike_63 : decode cX5_unlike 63 = .ok (.if_icmp .eq 6, 3) := by decide +kernel
theorem dX5_unlike_66 : decode cX5_unlike 66 = .ok (.iinc 2 1, 3) := by decide +kernel
theorem dX5_unlike_69 : decode cX5_unlike 69 = .ok (.iinc 3 1, 3) := by decide +kernel
theorem dX5_unlike_72 : decode cX5_unlike 72 = .ok (.goto (-38), 3) := by decide +kernel
theorem dX5_unlike_75 : decode cX5_unlike 75 = .ok (.iload_n 2, 1) := by decide +kernel
theorem dX5_unlike_76 : decode cX5_unlike 76 = .ok (.ireturn, 1) := by decide +kernel
theorem dX5_count_0 : decode cX5_count 0 = .ok (.iload_n 1, 1) := by decide +kernel
theorem dX5_count_1 : decode cX5_count 1 = .ok (.tableswitch 123 0 7 #[47, 55, 63, 71, 76, 81, 107, 115], 47) := by decide +kernel
theorem dX5_count_48 : decode cX5_count 48 = .ok (.aload_n 0, 1) := by decide +kernel
theorem dX5_count_49 : decode cX5_count 49 = .ok (.getfield 10, 3) := by decide +kernel
theorem dX5_count_52 : decode cX5_count 52 = .ok (.getfield 90, 3) := by decide +kernel
theorem dX5_count_55 : decode cX5_count 55 = .ok (.ireturn, 1) := by decide +kernel
theorem dX5_count_56 : decode cX5_count 56 = .ok (.aload_n 0, 1) := by decide +kernel
theorem dX5_count_57 : decode cX5_count 57 = .ok (.getfield 10, 3) := by decide +kernel
theorem dX5_count_60 : decode cX5_count 60 = .ok (.getfield 97, 3) := by decide +kernel
theorem dX5_count_63 : decode cX5_count 63 = .ok (.ireturn, 1) := by decide +kernel
theorem dX5_count_64 : decode cX5_count 64 = .ok (.aload_n 0, 1) := by decide +kernel
theorem dX5_count_65 : decode cX5_count 65 = .ok (.getfield 10, 3) := by decide +kernel
theorem dX5_count_68 : decode cX5_count 68 = .ok (.invokevirtual 177, 3) := by decide +kernel
theorem dX5_count_71 : decode cX5_count 71 = .ok (.ireturn, 1) := by decide +kernel
theorem dX5_count_72 : decode cX5_count 72 = .ok (.aload_n 0, 1) := by decide +kernel
theorem dX5_count_73 : decode cX5_count 73 = .ok (.invokevirtual 181, 3) := by decide +kernel
theorem dX5_count_76 : decode cX5_count 76 = .ok (.ireturn, 1) := by decide +kernel
theorem dX5_count_77 : decode cX5_count 77 = .ok (.aload_n 0, 1) := by decide +kernel
theorem dX5_count_78 : decode cX5_count 78 = .ok (.invokevirtual 184, 3) := by decide +kernel
theorem dX5_count_81 : decode cX5_count 81 = .ok (.ireturn, 1) := by decide +kernel
theorem dX5_count_82 : decode cX5_count 82 = .ok (.aload_n 0, 1) := by decide +kernel
theorem dX5_count_83 : decode cX5_count 83 = .ok (.getfield 43, 3) := by decide +kernel
theorem dX5_count_86 : decode cX5_count 86 = .ok (.aload_n 0, 1) := by decide +kernel
theorem dX5_count_87 : decode cX5_count 87 = .ok (.getfield 10, 3) := by decide +kernel
theorem dX5_count_90 : decode cX5_count 90 = .ok (.invokevirtual 134, 3) := by decide +kernel
theorem dX5_count_93 : decode cX5_count 93 = .ok (.aload_n 0, 1) := by decide +kernel
theorem dX5_count_94 : decode cX5_count 94 = .ok (.getfield 43, 3) := by decide +kernel
theorem dX5_count_97 : decode cX5_count 97 = .ok (.aload_n 0, 1) := by decide +kernel
theorem dX5_count_98 : decode cX5_count 98 = .ok (.getfield 10, 3) := by decide +kernel
theorem dX5_count_101 : decode cX5_count 101 = .ok (.getfield 90, 3) := by decide +kernel
theorem dX5_count_104 : decode cX5_count 104 = .ok (.invokevirtual 187, 3) := by decide +kernel
theorem dX5_count_107 : decode cX5_count 107 = .ok (.ireturn, 1) := by decide +kernel
theorem dX5_count_108 : decode cX5_count 108 = .ok (.aload_n 0, 1) := by decide +kernel
theorem dX5_count_109 : decode cX5_count 109 = .ok (.getfield 29, 3) := by decide +kernel
theorem dX5_count_112 : decode cX5_count 112 = .ok (.getfield 118, 3) := by decide +kernel
theorem dX5_count_115 : decode cX5_count 115 = .ok (.ireturn, 1) := by decide +kernel
theorem dX5_count_116 : decode cX5_count 116 = .ok (.aload_n 0, 1) := by decide +kernel
theorem dX5_count_117 : decode cX5_count 117 = .ok (.getfield 36, 3) := by decide +kernel
theorem dX5_count_120 : decode cX5_count 120 = .ok (.getfield 113, 3) := by decide +kernel
theorem dX5_count_123 : decode cX5_count 123 = .ok (.ireturn, 1) := by decide +kernel
theorem dX5_count_124 : decode cX5_count 124 = .ok (.ldc 58, 2) := by decide +kernel
theorem dX5_count_126 : decode cX5_count 126 = .ok (.ireturn, 1) := by decide +kernel
theorem dX5_addLine_0 : decode cX5_addLine 0 = .ok (.aload_n 0, 1) := by decide +kernel
theorem dX5_addLine_1 : decode cX5_addLine 1 = .ok (.getfield 10, 3) := by decide +kernel
theorem dX5_addLine_4 : decode cX5_addLine 4 = .ok (.getfield 90, 3) := by decide +kernel
theorem dX5_addLine_7 : decode cX5_addLine 7 = .ok (.bipush 16, 2) := by decide +kernel
theorem dX5_addLine_9 : decode cX5_addLine 9 = .ok (.if_icmp .lt 6, 3) := by decide +kernel
theorem dX5_addLine_12 : decode cX5_addLine 12 = .ok (.ldc 109, 2) := by decide +kernel
theorem dX5_addLine_14 : decode cX5_addLine 14 = .ok (.ireturn, 1) := by decide +kernel
theorem dX5_addLine_15 : decode cX5_addLine 15 = .ok (.aload_n 0, 1) := by decide +kernel
theorem dX5_addLine_16 : decode cX5_addLine 16 = .ok (.getfield 29, 3) := by decide +kernel
theorem dX5_addLine_19 : decode cX5_addLine 19 = .ok (.aload_n 0, 1) := by decide +kernel
theorem dX5_addLine_20 : decode cX5_addLine 20 = .ok (.getfield 10, 3) := by decide +kernel
theorem dX5_addLine_23 : decode cX5_addLine 23 = .ok (.invokevirtual 82, 3) := by decide +kernel
theorem dX5_addLine_26 : decode cX5_addLine 26 = .ok (.aload_n 0, 1) := by decide +kernel
theorem dX5_addLine_27 : decode cX5_addLine 27 = .ok (.getfield 10, 3) := by decide +kernel
theorem dX5_addLine_30 : decode cX5_addLine 30 = .ok (.iload_n 1, 1) := by decide +kernel
theorem dX5_addLine_31 : decode cX5_addLine 31 = .ok (.iload_n 2, 1) := by decide +kernel
theorem dX5_addLine_32 : decode cX5_addLine 32 = .ok (.iload_n 3, 1) := by decide +kernel
theorem dX5_addLine_33 : decode cX5_addLine 33 = .ok (.iload 4, 2) := by decide +kernel
theorem dX5_addLine_35 : decode cX5_addLine 35 = .ok (.invokevirtual 190, 3) := by decide +kernel
theorem dX5_addLine_38 : decode cX5_addLine 38 = .ok (.aload_n 0, 1) := by decide +kernel
theorem dX5_addLine_39 : decode cX5_addLine 39 = .ok (.getfield 10, 3) := by decide +kernel
theorem dX5_addLine_42 : decode cX5_addLine 42 = .ok (.getfield 90, 3) := by decide +kernel
theorem dX5_addLine_45 : decode cX5_addLine 45 = .ok (.iconst 1, 1) := by decide +kernel
theorem dX5_addLine_46 : decode cX5_addLine 46 = .ok (.isub, 1) := by decide +kernel
theorem dX5_addLine_47 : decode cX5_addLine 47 = .ok (.ireturn, 1) := by decide +kernel
theorem dX5_onesOver_0 : decode cX5_onesOver 0 = .ok (.aload_n 0, 1) := by decide +kernel
theorem dX5_onesOver_1 : decode cX5_onesOver 1 = .ok (.getfield 50, 3) := by decide +kernel
theorem dX5_onesOver_4 : decode cX5_onesOver 4 = .ok (.aload_n 0, 1) := by decide +kernel
theorem dX5_onesOver_5 : decode cX5_onesOver 5 = .ok (.getfield 10, 3) := by decide +kernel
theorem dX5_onesOver_8 : decode cX5_onesOver 8 = .ok (.iload_n 1, 1) := by decide +kernel
theorem dX5_onesOver_9 : decode cX5_onesOver 9 = .ok (.iload_n 2, 1) := by decide +kernel
theorem dX5_onesOver_10 : decode cX5_onesOver 10 = .ok (.invokevirtual 149, 3) := by decide +kernel
theorem dX5_onesOver_13 : decode cX5_onesOver 13 = .ok (.aload_n 0, 1) := by decide +kernel
theorem dX5_onesOver_14 : decode cX5_onesOver 14 = .ok (.getfield 50, 3) := by decide +kernel
theorem dX5_onesOver_17 : decode cX5_onesOver 17 = .ok (.iload_n 1, 1) := by decide +kernel
theorem dX5_onesOver_18 : decode cX5_onesOver 18 = .ok (.iload_n 2, 1) := by decide +kernel
theorem dX5_onesOver_19 : decode cX5_onesOver 19 = .ok (.invokevirtual 165, 3) := by decide +kernel
theorem dX5_onesOver_22 : decode cX5_onesOver 22 = .ok (.ireturn, 1) := by decide +kernel
theorem dX5_errorOver_0 : decode cX5_errorOver 0 = .ok (.aload_n 0, 1) := by decide +kernel
theorem dX5_errorOver_1 : decode cX5_errorOver 1 = .ok (.getfield 43, 3) := by decide +kernel
theorem dX5_errorOver_4 : decode cX5_errorOver 4 = .ok (.aload_n 0, 1) := by decide +kernel
theorem dX5_errorOver_5 : decode cX5_errorOver 5 = .ok (.getfield 10, 3) := by decide +kernel
theorem dX5_errorOver_8 : decode cX5_errorOver 8 = .ok (.invokevirtual 134, 3) := by decide +kernel
theorem dX5_errorOver_11 : decode cX5_errorOver 11 = .ok (.aload_n 0, 1) := by decide +kernel
theorem dX5_errorOver_12 : decode cX5_errorOver 12 = .ok (.getfield 50, 3) := by decide +kernel
theorem dX5_errorOver_15 : decode cX5_errorOver 15 = .ok (.aload_n 0, 1) := by decide +kernel
theorem dX5_errorOver_16 : decode cX5_errorOver 16 = .ok (.getfield 10, 3) := by decide +kernel
theorem dX5_errorOver_19 : decode cX5_errorOver 19 = .ok (.iload_n 1, 1) := by decide +kernel
theorem dX5_errorOver_20 : decode cX5_errorOver 20 = .ok (.iload_n 2, 1) := by decide +kernel
theorem dX5_errorOver_21 : decode cX5_errorOver 21 = .ok (.invokevirtual 149, 3) := by decide +kernel
theorem dX5_errorOver_24 : decode cX5_errorOver 24 = .ok (.aload_n 0, 1) := by decide +kernel
theorem dX5_errorOver_25 : decode cX5_errorOver 25 = .ok (.iload_n 1, 1) := by decide +kernel
theorem dX5_errorOver_26 : decode cX5_errorOver 26 = .ok (.iload_n 2, 1) := by decide +kernel
theorem dX5_errorOver_27 : decode cX5_errorOver 27 = .ok (.invokevirtual 194, 3) := by decide +kernel
theorem dX5_errorOver_30 : decode cX5_errorOver 30 = .ok (.ireturn, 1) := by decide +kernel
theorem dX5_errorOfFilled_0 : decode cX5_errorOfFilled 0 = .ok (.aload_n 0, 1) := by decide +kernel
theorem dX5_errorOfFilled_1 : decode cX5_errorOfFilled 1 = .ok (.iload_n 1, 1) := by decide +kernel
theorem dX5_errorOfFilled_2 : decode cX5_errorOfFilled 2 = .ok (.aload_n 0, 1) := by decide +kernel
theorem dX5_errorOfFilled_3 : decode cX5_errorOfFilled 3 = .ok (.getfield 50, 3) := by decide +kernel
theorem dX5_errorOfFilled_6 : decode cX5_errorOfFilled 6 = .ok (.iload_n 1, 1) := by decide +kernel
theorem dX5_errorOfFilled_7 : decode cX5_errorOfFilled 7 = .ok (.iload_n 2, 1) := by decide +kernel
theorem dX5_errorOfFilled_8 : decode cX5_errorOfFilled 8 = .ok (.invokevirtual 165, 3) := by decide +kernel
theorem dX5_errorOfFilled_11 : decode cX5_errorOfFilled 11 = .ok (.iload_n 2, 1) := by decide +kernel
theorem dX5_errorOfFilled_12 : decode cX5_errorOfFilled 12 = .ok (.invokevirtual 197, 3) := by decide +kernel
theorem dX5_errorOfFilled_15 : decode cX5_errorOfFilled 15 = .ok (.ireturn, 1) := by decide +kernel
theorem dX5_errorOfCount_0 : decode cX5_errorOfCount 0 = .ok (.iload_n 2, 1) := by decide +kernel
theorem dX5_errorOfCount_1 : decode cX5_errorOfCount 1 = .ok (.iload_n 3, 1) := by decide +kernel
theorem dX5_errorOfCount_2 : decode cX5_errorOfCount 2 = .ok (.invokestatic 131, 3) := by decide +kernel
theorem dX5_errorOfCount_5 : decode cX5_errorOfCount 5 = .ok (.aload_n 0, 1) := by decide +kernel
theorem dX5_errorOfCount_6 : decode cX5_errorOfCount 6 = .ok (.getfield 43, 3) := by decide +kernel
theorem dX5_errorOfCount_9 : decode cX5_errorOfCount 9 = .ok (.iload_n 1, 1) := by decide +kernel
theorem dX5_errorOfCount_10 : decode cX5_errorOfCount 10 = .ok (.invokevirtual 137, 3) := by decide +kernel
theorem dX5_errorOfCount_13 : decode cX5_errorOfCount 13 = .ok (.isub, 1) := by decide +kernel
theorem dX5_errorOfCount_14 : decode cX5_errorOfCount 14 = .ok (.invokestatic 200, 3) := by decide +kernel
theorem dX5_errorOfCount_17 : decode cX5_errorOfCount 17 = .ok (.ireturn, 1) := by decide +kernel
theorem dX5_lastLengthBeyond_0 : decode cX5_lastLengthBeyond 0 = .ok (.aload_n 0, 1) := by decide +kernel
theorem dX5_lastLengthBeyond_1 : decode cX5_lastLengthBeyond 1 = .ok (.getfield 43, 3) := by decide +kernel
theorem dX5_lastLengthBeyond_4 : decode cX5_lastLengthBeyond 4 = .ok (.aload_n 0, 1) := by decide +kernel
theorem dX5_lastLengthBeyond_5 : decode cX5_lastLengthBeyond 5 = .ok (.getfield 10, 3) := by decide +kernel
theorem dX5_lastLengthBeyond_8 : decode cX5_lastLengthBeyond 8 = .ok (.invokevirtual 134, 3) := by decide +kernel
theorem dX5_lastLengthBeyond_11 : decode cX5_lastLengthBeyond 11 = .ok (.aload_n 0, 1) := by decide +kernel
theorem dX5_lastLengthBeyond_12 : decode cX5_lastLengthBeyond 12 = .ok (.getfield 50, 3) := by decide +kernel
theorem dX5_lastLengthBeyond_15 : decode cX5_lastLengthBeyond 15 = .ok (.aload_n 0, 1) := by decide +kernel
theorem dX5_lastLengthBeyond_16 : decode cX5_lastLengthBeyond 16 = .ok (.getfield 10, 3) := by decide +kernel
theorem dX5_lastLengthBeyond_19 : decode cX5_lastLengthBeyond 19 = .ok (.iload_n 1, 1) := by decide +kernel
theorem dX5_lastLengthBeyond_20 : decode cX5_lastLengthBeyond 20 = .ok (.sipush 1000, 3) := by decide +kernel
theorem dX5_lastLengthBeyond_23 : decode cX5_lastLengthBeyond 23 = .ok (.invokevirtual 149, 3) := by decide +kernel
theorem dX5_lastLengthBeyond_26 : decode cX5_lastLengthBeyond 26 = .ok (.iconst 0, 1) := by decide +kernel
theorem dX5_lastLengthBeyond_27 : decode cX5_lastLengthBeyond 27 = .ok (.istore_n 3, 1) := by decide +kernel
theorem dX5_lastLengthBeyond_28 : decode cX5_lastLengthBeyond 28 = .ok (.iconst 0, 1) := by decide +kernel
theorem dX5_lastLengthBeyond_29 : decode cX5_lastLengthBeyond 29 = .ok (.istore 4, 2) := by decide +kernel
theorem dX5_lastLengthBeyond_31 : decode cX5_lastLengthBeyond 31 = .ok (.iconst 1, 1) := by decide +kernel
theorem dX5_lastLengthBeyond_32 : decode cX5_lastLengthBeyond 32 = .ok (.istore 5, 2) := by decide +kernel
theorem dX5_lastLengthBeyond_34 : decode cX5_lastLengthBeyond 34 = .ok (.iload 5, 2) := by decide +kernel
theorem dX5_lastLengthBeyond_36 : decode cX5_lastLengthBeyond 36 = .ok (.sipush 1000, 3) := by decide +kernel
theorem dX5_lastLengthBeyond_39 : decode cX5_lastLengthBeyond 39 = .ok (.if_icmp .gt 42, 3) := by decide +kernel
theorem dX5_lastLengthBeyond_42 : decode cX5_lastLengthBeyond 42 = .ok (.iload 4, 2) := by decide +kernel
theorem dX5_lastLengthBeyond_44 : decode cX5_lastLengthBeyond 44 = .ok (.aload_n 0, 1) := by decide +kernel
theorem dX5_lastLengthBeyond_45 : decode cX5_lastLengthBeyond 45 = .ok (.getfield 50, 3) := by decide +kernel
theorem dX5_lastLengthBeyond_48 : decode cX5_lastLengthBeyond 48 = .ok (.iload_n 1, 1) := by decide +kernel
theorem dX5_lastLengthBeyond_49 : decode cX5_lastLengthBeyond 49 = .ok (.iload 5, 2) := by decide +kernel
theorem dX5_lastLengthBeyond_51 : decode cX5_lastLengthBeyond 51 = .ok (.iconst 1, 1) := by decide +kernel
theorem dX5_lastLengthBeyond_52 : decode cX5_lastLengthBeyond 52 = .ok (.isub, 1) := by decide +kernel
theorem dX5_lastLengthBeyond_53 : decode cX5_lastLengthBeyond 53 = .ok (.invokevirtual 153, 3) := by decide +kernel
theorem dX5_lastLengthBeyond_56 : decode cX5_lastLengthBeyond 56 = .ok (.iadd, 1) := by decide +kernel
theorem dX5_lastLengthBeyond_57 : decode cX5_lastLengthBeyond 57 = .ok (.istore 4, 2) := by decide +kernel
theorem dX5_lastLengthBeyond_59 : decode cX5_lastLengthBeyond 59 = .ok (.aload_n 0, 1) := by decide +kernel
theorem dX5_lastLengthBeyond_60 : decode cX5_lastLengthBeyond 60 = .ok (.iload_n 1, 1) := by decide +kernel
theorem dX5_lastLengthBeyond_61 : decode cX5_lastLengthBeyond 61 = .ok (.iload 4, 2) := by decide +kernel
theorem dX5_lastLengthBeyond_63 : decode cX5_lastLengthBeyond 63 = .ok (.iload 5, 2) := by decide +kernel
theorem dX5_lastLengthBeyond_65 : decode cX5_lastLengthBeyond 65 = .ok (.invokevirtual 197, 3) := by decide +kernel
theorem dX5_lastLengthBeyond_68 : decode cX5_lastLengthBeyond 68 = .ok (.iload_n 2, 1) := by decide +kernel
theorem dX5_lastLengthBeyond_69 : decode cX5_lastLengthBeyond 69 = .ok (.if_icmp .le 6, 3) := by decide +kernel
theorem dX5_lastLengthBeyond_72 : decode cX5_lastLengthBeyond 72 = .ok (.iload 5, 2) := by decide +kernel
theorem dX5_lastLengthBeyond_74 : decode cX5_lastLengthBeyond 74 = .ok (.istore_n 3, 1) := by decide +kernel
theorem dX5_lastLengthBeyond_75 : decode cX5_lastLengthBeyond 75 = .ok (.iinc 5 1, 3) := by decide +kernel
theorem dX5_lastLengthBeyond_78 : decode cX5_lastLengthBeyond 78 = .ok (.goto (-44), 3) := by decide +kernel
theorem dX5_lastLengthBeyond_81 : decode cX5_lastLengthBeyond 81 = .ok (.iload_n 3, 1) := by decide +kernel
theorem dX5_lastLengthBeyond_82 : decode cX5_lastLengthBeyond 82 = .ok (.ireturn, 1) := by decide +kernel
theorem dX5_sumOfErrors_0 : decode cX5_sumOfErrors 0 = .ok (.aload_n 0, 1) := by decide +kernel
theorem dX5_sumOfErrors_1 : decode cX5_sumOfErrors 1 = .ok (.invokevirtual 207, 3) := by decide +kernel
theorem dX5_sumOfErrors_4 : decode cX5_sumOfErrors 4 = .ok (.iconst 0, 1) := by decide +kernel
theorem dX5_sumOfErrors_5 : decode cX5_sumOfErrors 5 = .ok (.istore_n 1, 1) := by decide +kernel
theorem dX5_sumOfErrors_6 : decode cX5_sumOfErrors 6 = .ok (.iconst 0, 1) := by decide +kernel
theorem dX5_sumOfErrors_7 : decode cX5_sumOfErrors 7 = .ok (.istore_n 2, 1) := by decide +kernel
theorem dX5_sumOfErrors_8 : decode cX5_sumOfErrors 8 = .ok (.iload_n 2, 1) := by decide +kernel
theorem dX5_sumOfErrors_9 : decode cX5_sumOfErrors 9 = .ok (.aload_n 0, 1) := by decide +kernel
theorem dX5_sumOfErrors_10 : decode cX5_sumOfErrors 10 = .ok (.getfield 10, 3) := by decide +kernel
theorem dX5_sumOfErrors_13 : decode cX5_sumOfErrors 13 = .ok (.getfield 90, 3) := by decide +kernel
theorem dX5_sumOfErrors_16 : decode cX5_sumOfErrors 16 = .ok (.if_icmp .ge 24, 3) := by decide +kernel
theorem dX5_sumOfErrors_19 : decode cX5_sumOfErrors 19 = .ok (.iload_n 1, 1) := by decide +kernel
theorem dX5_sumOfErrors_20 : decode cX5_sumOfErrors 20 = .ok (.aload_n 0, 1) := by decide +kernel
theorem dX5_sumOfErrors_21 : decode cX5_sumOfErrors 21 = .ok (.iload_n 2, 1) := by decide +kernel
theorem dX5_sumOfErrors_22 : decode cX5_sumOfErrors 22 = .ok (.aload_n 0, 1) := by decide +kernel
theorem dX5_sumOfErrors_23 : decode cX5_sumOfErrors 23 = .ok (.getfield 10, 3) := by decide +kernel
theorem dX5_sumOfErrors_26 : decode cX5_sumOfErrors 26 = .ok (.getfield 97, 3) := by decide +kernel
theorem dX5_sumOfErrors_29 : decode cX5_sumOfErrors 29 = .ok (.invokevirtual 194, 3) := by decide +kernel
theorem dX5_sumOfErrors_32 : decode cX5_sumOfErrors 32 = .ok (.iadd, 1) := by decide +kernel
theorem dX5_sumOfErrors_33 : decode cX5_sumOfErrors 33 = .ok (.istore_n 1, 1) := by decide +kernel
theorem dX5_sumOfErrors_34 : decode cX5_sumOfErrors 34 = .ok (.iinc 2 1, 3) := by decide +kernel
theorem dX5_sumOfErrors_37 : decode cX5_sumOfErrors 37 = .ok (.goto (-29), 3) := by decide +kernel
theorem dX5_sumOfErrors_40 : decode cX5_sumOfErrors 40 = .ok (.iload_n 1, 1) := by decide +kernel
theorem dX5_sumOfErrors_41 : decode cX5_sumOfErrors 41 = .ok (.ireturn, 1) := by decide +kernel
theorem dX5_lineWithGreatestError_0 : decode cX5_lineWithGreatestError 0 = .ok (.aload_n 0, 1) := by decide +kernel
theorem dX5_lineWithGreatestError_1 : decode cX5_lineWithGreatestError 1 = .ok (.invokevirtual 207, 3) := by decide +kernel
theorem dX5_lineWithGreatestError_4 : decode cX5_lineWithGreatestError 4 = .ok (.ldc 81, 2) := by decide +kernel
theorem dX5_lineWithGreatestError_6 : decode cX5_lineWithGreatestError 6 = .ok (.istore_n 1, 1) := by decide +kernel
theorem dX5_lineWithGreatestError_7 : decode cX5_lineWithGreatestError 7 = .ok (.iconst (-1), 1) := by decide +kernel
theorem dX5_lineWithGreatestError_8 : decode cX5_lineWithGreatestError 8 = .ok (.istore_n 2, 1) := by decide +kernel
theorem dX5_lineWithGreatestError_9 : decode cX5_lineWithGreatestError 9 = .ok (.iconst 0, 1) := by decide +kernel
theorem dX5_lineWithGreatestError_10 : decode cX5_lineWithGreatestError 10 = .ok (.istore_n 3, 1) := by decide +kernel
theorem dX5_lineWithGreatestError_11 : decode cX5_lineWithGreatestError 11 = .ok (.iload_n 3, 1) := by decide +kernel
theorem dX5_lineWithGreatestError_12 : decode cX5_lineWithGreatestError 12 = .ok (.aload_n 0, 1) := by decide +kernel
theorem dX5_lineWithGreatestError_13 : decode cX5_lineWithGreatestError 13 = .ok (.getfield 10, 3) := by decide +kernel
theorem dX5_lineWithGreatestError_16 : decode cX5_lineWithGreatestError 16 = .ok (.getfield 90, 3) := by decide +kernel
theorem dX5_lineWithGreatestError_19 : decode cX5_lineWithGreatestError 19 = .ok (.if_icmp .ge 34, 3) := by decide +kernel
theorem dX5_lineWithGreatestError_22 : decode cX5_lineWithGreatestError 22 = .ok (.aload_n 0, 1) := by decide +kernel
theorem dX5_lineWithGreatestError_23 : decode cX5_lineWithGreatestError 23 = .ok (.iload_n 3, 1) := by decide +kernel
theorem dX5_lineWithGreatestError_24 : decode cX5_lineWithGreatestError 24 = .ok (.aload_n 0, 1) := by decide +kernel
theorem dX5_lineWithGreatestError_25 : decode cX5_lineWithGreatestError 25 = .ok (.getfield 10, 3) := by decide +kernel
theorem dX5_lineWithGreatestError_28 : decode cX5_lineWithGreatestError 28 = .ok (.getfield 97, 3) := by decide +kernel
theorem dX5_lineWithGreatestError_31 : decode cX5_lineWithGreatestError 31 = .ok (.invokevirtual 194, 3) := by decide +kernel
theorem dX5_lineWithGreatestError_34 : decode cX5_lineWithGreatestError 34 = .ok (.istore 4, 2) := by decide +kernel
theorem dX5_lineWithGreatestError_36 : decode cX5_lineWithGreatestError 36 = .ok (.iload 4, 2) := by decide +kernel
theorem dX5_lineWithGreatestError_38 : decode cX5_lineWithGreatestError 38 = .ok (.iload_n 2, 1) := by decide +kernel
theorem dX5_lineWithGreatestError_39 : decode cX5_lineWithGreatestError 39 = .ok (.if_icmp .le 8, 3) := by decide +kernel
theorem dX5_lineWithGreatestError_42 : decode cX5_lineWithGreatestError 42 = .ok (.iload 4, 2) := by decide +kernel
theorem dX5_lineWithGreatestError_44 : decode cX5_lineWithGreatestError 44 = .ok (.istore_n 2, 1) := by decide +kernel
theorem dX5_lineWithGreatestError_45 : decode cX5_lineWithGreatestError 45 = .ok (.iload_n 3, 1) := by decide +kernel
theorem dX5_lineWithGreatestError_46 : decode cX5_lineWithGreatestError 46 = .ok (.istore_n 1, 1) := by decide +kernel
theorem dX5_lineWithGreatestError_47 : decode cX5_lineWithGreatestError 47 = .ok (.iinc 3 1, 3) := by decide +kernel
theorem dX5_lineWithGreatestError_50 : decode cX5_lineWithGreatestError 50 = .ok (.goto (-39), 3) := by decide +kernel
theorem dX5_lineWithGreatestError_53 : decode cX5_lineWithGreatestError 53 = .ok (.iload_n 1, 1) := by decide +kernel
theorem dX5_lineWithGreatestError_54 : decode cX5_lineWithGreatestError 54 = .ok (.ireturn, 1) := by decide +kernel
theorem dX5_fillAll_0 : decode cX5_fillAll 0 = .ok (.aload_n 0, 1) := by decide +kernel
theorem dX5_fillAll_1 : decode cX5_fillAll 1 = .ok (.getfield 43, 3) := by decide +kernel
theorem dX5_fillAll_4 : decode cX5_fillAll 4 = .ok (.aload_n 0, 1) := by decide +kernel
theorem dX5_fillAll_5 : decode cX5_fillAll 5 = .ok (.getfield 10, 3) := by decide +kernel
theorem dX5_fillAll_8 : decode cX5_fillAll 8 = .ok (.invokevirtual 134, 3) := by decide +kernel
theorem dX5_fillAll_11 : decode cX5_fillAll 11 = .ok (.aload_n 0, 1) := by decide +kernel
theorem dX5_fillAll_12 : decode cX5_fillAll 12 = .ok (.getfield 50, 3) := by decide +kernel
theorem dX5_fillAll_15 : decode cX5_fillAll 15 = .ok (.aload_n 0, 1) := by decide +kernel
theorem dX5_fillAll_16 : decode cX5_fillAll 16 = .ok (.getfield 10, 3) := by decide +kernel
theorem dX5_fillAll_19 : decode cX5_fillAll 19 = .ok (.aload_n 0, 1) := by decide +kernel
theorem dX5_fillAll_20 : decode cX5_fillAll 20 = .ok (.getfield 10, 3) := by decide +kernel
theorem dX5_fillAll_23 : decode cX5_fillAll 23 = .ok (.getfield 90, 3) := by decide +kernel
theorem dX5_fillAll_26 : decode cX5_fillAll 26 = .ok (.iconst 1, 1) := by decide +kernel
theorem dX5_fillAll_27 : decode cX5_fillAll 27 = .ok (.isub, 1) := by decide +kernel
theorem dX5_fillAll_28 : decode cX5_fillAll 28 = .ok (.aload_n 0, 1) := by decide +kernel
theorem dX5_fillAll_29 : decode cX5_fillAll 29 = .ok (.getfield 10, 3) := by decide +kernel
theorem dX5_fillAll_32 : decode cX5_fillAll 32 = .ok (.getfield 97, 3) := by decide +kernel
theorem dX5_fillAll_35 : decode cX5_fillAll 35 = .ok (.invokevirtual 149, 3) := by decide +kernel
theorem dX5_fillAll_38 : decode cX5_fillAll 38 = .ok (.return_, 1) := by decide +kernel
theorem dX5_shareOf_0 : decode cX5_shareOf 0 = .ok (.iload_n 1, 1) := by decide +kernel
theorem dX5_shareOf_1 : decode cX5_shareOf 1 = .ok (.iconst 1, 1) := by decide +kernel
theorem dX5_shareOf_2 : decode cX5_shareOf 2 = .ok (.if_icmp .ge 7, 3) := by decide +kernel
theorem dX5_shareOf_5 : decode cX5_shareOf 5 = .ok (.iconst 0, 1) := by decide +kernel
theorem dX5_shareOf_6 : decode cX5_shareOf 6 = .ok (.goto 9, 3) := by decide +kernel
theorem dX5_shareOf_9 : decode cX5_shareOf 9 = .ok (.iload_n 0, 1) := by decide +kernel
theorem dX5_shareOf_10 : decode cX5_shareOf 10 = .ok (.ldc 170, 2) := by decide +kernel
theorem dX5_shareOf_12 : decode cX5_shareOf 12 = .ok (.imul, 1) := by decide +kernel
theorem dX5_shareOf_13 : decode cX5_shareOf 13 = .ok (.iload_n 1, 1) := by decide +kernel
theorem dX5_shareOf_14 : decode cX5_shareOf 14 = .ok (.idiv, 1) := by decide +kernel
theorem dX5_shareOf_15 : decode cX5_shareOf 15 = .ok (.ireturn, 1) := by decide +kernel
theorem dX5_isShareAndSeed_0 : decode cX5_isShareAndSeed 0 = .ok (.iload_n 0, 1) := by decide +kernel
theorem dX5_isShareAndSeed_1 : decode cX5_isShareAndSeed 1 = .ok (.iconst 0, 1) := by decide +kernel
theorem dX5_isShareAndSeed_2 : decode cX5_isShareAndSeed 2 = .ok (.sipush 256, 3) := by decide +kernel
theorem dX5_isShareAndSeed_5 : decode cX5_isShareAndSeed 5 = .ok (.invokestatic 68, 3) := by decide +kernel
theorem dX5_isShareAndSeed_8 : decode cX5_isShareAndSeed 8 = .ok (.ifCond .eq 18, 3) := by decide +kernel
theorem dX5_isShareAndSeed_11 : decode cX5_isShareAndSeed 11 = .ok (.iload_n 1, 1) := by decide +kernel
theorem dX5_isShareAndSeed_12 : decode cX5_isShareAndSeed 12 = .ok (.iconst 1, 1) := by decide +kernel
theorem dX5_isShareAndSeed_13 : decode cX5_isShareAndSeed 13 = .ok (.sipush 255, 3) := by decide +kernel
theorem dX5_isShareAndSeed_16 : decode cX5_isShareAndSeed 16 = .ok (.invokestatic 68, 3) := by decide +kernel
theorem dX5_isShareAndSeed_19 : decode cX5_isShareAndSeed 19 = .ok (.ifCond .eq 7, 3) := by decide +kernel
theorem dX5_isShareAndSeed_22 : decode cX5_isShareAndSeed 22 = .ok (.iconst 1, 1) := by decide +kernel
theorem dX5_isShareAndSeed_23 : decode cX5_isShareAndSeed 23 = .ok (.goto 4, 3) := by decide +kernel
theorem dX5_isShareAndSeed_26 : decode cX5_isShareAndSeed 26 = .ok (.iconst 0, 1) := by decide +kernel
theorem dX5_isShareAndSeed_27 : decode cX5_isShareAndSeed 27 = .ok (.ireturn, 1) := by decide +kernel
theorem dX5_isWithin_0 : decode cX5_isWithin 0 = .ok (.iload_n 0, 1) := by decide +kernel
theorem dX5_isWithin_1 : decode cX5_isWithin 1 = .ok (.iload_n 1, 1) := by decide +kernel
theorem dX5_isWithin_2 : decode cX5_isWithin 2 = .ok (.if_icmp .lt 12, 3) := by decide +kernel
theorem dX5_isWithin_5 : decode cX5_isWithin 5 = .ok (.iload_n 0, 1) := by decide +kernel
theorem dX5_isWithin_6 : decode cX5_isWithin 6 = .ok (.iload_n 2, 1) := by decide +kernel
theorem dX5_isWithin_7 : decode cX5_isWithin 7 = .ok (.if_icmp .gt 7, 3) := by decide +kernel
theorem dX5_isWithin_10 : decode cX5_isWithin 10 = .ok (.iconst 1, 1) := by decide +kernel
theorem dX5_isWithin_11 : decode cX5_isWithin 11 = .ok (.goto 4, 3) := by decide +kernel
theorem dX5_isWithin_14 : decode cX5_isWithin 14 = .ok (.iconst 0, 1) := by decide +kernel
theorem dX5_isWithin_15 : decode cX5_isWithin 15 = .ok (.ireturn, 1) := by decide +kernel
theorem dX5_numbersOfKind_0 : decode cX5_numbersOfKind 0 = .ok (.getstatic 213, 3) := by decide +kernel
theorem dX5_numbersOfKind_3 : decode cX5_numbersOfKind 3 = .ok (.iload_n 0, 1) := by decide +kernel
theorem dX5_numbersOfKind_4 : decode cX5_numbersOfKind 4 = .ok (.invokestatic 217, 3) := by decide +kernel
theorem dX5_numbersOfKind_7 : decode cX5_numbersOfKind 7 = .ok (.ireturn, 1) := by decide +kernel
theorem dX5_linesOfKind_0 : decode cX5_linesOfKind 0 = .ok (.getstatic 221, 3) := by decide +kernel
theorem dX5_linesOfKind_3 : decode cX5_linesOfKind 3 = .ok (.iload_n 0, 1) := by decide +kernel
theorem dX5_linesOfKind_4 : decode cX5_linesOfKind 4 = .ok (.invokestatic 217, 3) := by decide +kernel
theorem dX5_linesOfKind_7 : decode cX5_linesOfKind 7 = .ok (.ireturn, 1) := by decide +kernel
theorem dX5_elementAt_0 : decode cX5_elementAt 0 = .ok (.iload_n 1, 1) := by decide +kernel
theorem dX5_elementAt_1 : decode cX5_elementAt 1 = .ok (.ifCond .lt 9, 3) := by decide +kernel
theorem dX5_elementAt_4 : decode cX5_elementAt 4 = .ok (.iload_n 1, 1) := by decide +kernel
theorem dX5_elementAt_5 : decode cX5_elementAt 5 = .ok (.aload_n 0, 1) := by decide +kernel
theorem dX5_elementAt_6 : decode cX5_elementAt 6 = .ok (.arraylength, 1) := by decide +kernel
theorem dX5_elementAt_7 : decode cX5_elementAt 7 = .ok (.if_icmp .lt 7, 3) := by decide +kernel
theorem dX5_elementAt_10 : decode cX5_elementAt 10 = .ok (.iconst 0, 1) := by decide +kernel
theorem dX5_elementAt_11 : decode cX5_elementAt 11 = .ok (.goto 6, 3) := by decide +kernel
theorem dX5_elementAt_14 : decode cX5_elementAt 14 = .ok (.aload_n 0, 1) := by decide +kernel
theorem dX5_elementAt_15 : decode cX5_elementAt 15 = .ok (.iload_n 1, 1) := by decide +kernel
theorem dX5_elementAt_16 : decode cX5_elementAt 16 = .ok (.iaload, 1) := by decide +kernel
theorem dX5_elementAt_17 : decode cX5_elementAt 17 = .ok (.ireturn, 1) := by decide +kernel
theorem dX5_setElement_0 : decode cX5_setElement 0 = .ok (.iload_n 1, 1) := by decide +kernel
theorem dX5_setElement_1 : decode cX5_setElement 1 = .ok (.ifCond .lt 13, 3) := by decide +kernel
theorem dX5_setElement_4 : decode cX5_setElement 4 = .ok (.iload_n 1, 1) := by decide +kernel
theorem dX5_setElement_5 : decode cX5_setElement 5 = .ok (.aload_n 0, 1) := by decide +kernel
theorem dX5_setElement_6 : decode cX5_setElement 6 = .ok (.arraylength, 1) := by decide +kernel
theorem dX5_setElement_7 : decode cX5_setElement 7 = .ok (.if_icmp .ge 7, 3) := by decide +kernel
theorem dX5_setElement_10 : decode cX5_setElement 10 = .ok (.aload_n 0, 1) := by decide +kernel
theorem dX5_setElement_11 : decode cX5_setElement 11 = .ok (.iload_n 1, 1) := by decide +kernel
theorem dX5_setElement_12 : decode cX5_setElement 12 = .ok (.iload_n 2, 1) := by decide +kernel
theorem dX5_setElement_13 : decode cX5_setElement 13 = .ok (.iastore, 1) := by decide +kernel
theorem dX5_setElement_14 : decode cX5_setElement 14 = .ok (.return_, 1) := by decide +kernel
theorem dJ6_bitCount_0f7a4_0 : decode cJ6_bitCount_0f7a4 0 = .ok (.iload_n 0, 1) := by decide +kernel
theorem dJ6_bitCount_0f7a4_1 : decode cJ6_bitCount_0f7a4 1 = .ok (.iload_n 0, 1) := by decide +kernel
theorem dJ6_bitCount_0f7a4_2 : decode cJ6_bitCount_0f7a4 2 = .ok (.iconst 1, 1) := by decide +kernel
theorem dJ6_bitCount_0f7a4_3 : decode cJ6_bitCount_0f7a4 3 = .ok (.iushr, 1) := by decide +kernel
theorem dJ6_bitCount_0f7a4_4 : decode cJ6_bitCount_0f7a4 4 = .ok (.ldc_w 265, 3) := by decide +kernel
theorem dJ6_bitCount_0f7a4_7 : decode cJ6_bitCount_0f7a4 7 = .ok (.iand, 1) := by decide +kernel
theorem dJ6_bitCount_0f7a4_8 : decode cJ6_bitCount_0f7a4 8 = .ok (.isub, 1) := by decide +kernel
theorem dJ6_bitCount_0f7a4_9 : decode cJ6_bitCount_0f7a4 9 = .ok (.istore_n 0, 1) := by decide +kernel
theorem dJ6_bitCount_0f7a4_10 : decode cJ6_bitCount_0f7a4 10 = .ok (.iload_n 0, 1) := by decide +kernel
theorem dJ6_bitCount_0f7a4_11 : decode cJ6_bitCount_0f7a4 11 = .ok (.ldc_w 266, 3) := by decide +kernel
theorem dJ6_bitCount_0f7a4_14 : decode cJ6_bitCount_0f7a4 14 = .ok (.iand, 1) := by decide +kernel
theorem dJ6_bitCount_0f7a4_15 : decode cJ6_bitCount_0f7a4 15 = .ok (.iload_n 0, 1) := by decide +kernel
theorem dJ6_bitCount_0f7a4_16 : decode cJ6_bitCount_0f7a4 16 = .ok (.iconst 2, 1) := by decide +kernel
theorem dJ6_bitCount_0f7a4_17 : decode cJ6_bitCount_0f7a4 17 = .ok (.iushr, 1) := by decide +kernel
theorem dJ6_bitCount_0f7a4_18 : decode cJ6_bitCount_0f7a4 18 = .ok (.ldc_w 266, 3) := by decide +kernel
theorem dJ6_bitCount_0f7a4_21 : decode cJ6_bitCount_0f7a4 21 = .ok (.iand, 1) := by decide +kernel
theorem dJ6_bitCount_0f7a4_22 : decode cJ6_bitCount_0f7a4 22 = .ok (.iadd, 1) := by decide +kernel
theorem dJ6_bitCount_0f7a4_23 : decode cJ6_bitCount_0f7a4 23 = .ok (.istore_n 0, 1) := by decide +kernel
theorem dJ6_bitCount_0f7a4_24 : decode cJ6_bitCount_0f7a4 24 = .ok (.iload_n 0, 1) := by decide +kernel
theorem dJ6_bitCount_0f7a4_25 : decode cJ6_bitCount_0f7a4 25 = .ok (.iload_n 0, 1) := by decide +kernel
theorem dJ6_bitCount_0f7a4_26 : decode cJ6_bitCount_0f7a4 26 = .ok (.iconst 4, 1) := by decide +kernel
theorem dJ6_bitCount_0f7a4_27 : decode cJ6_bitCount_0f7a4 27 = .ok (.iushr, 1) := by decide +kernel
theorem dJ6_bitCount_0f7a4_28 : decode cJ6_bitCount_0f7a4 28 = .ok (.iadd, 1) := by decide +kernel
theorem dJ6_bitCount_0f7a4_29 : decode cJ6_bitCount_0f7a4 29 = .ok (.ldc_w 267, 3) := by decide +kernel
theorem dJ6_bitCount_0f7a4_32 : decode cJ6_bitCount_0f7a4 32 = .ok (.iand, 1) := by decide +kernel
theorem dJ6_bitCount_0f7a4_33 : decode cJ6_bitCount_0f7a4 33 = .ok (.istore_n 0, 1) := by decide +kernel
theorem dJ6_bitCount_0f7a4_34 : decode cJ6_bitCount_0f7a4 34 = .ok (.iload_n 0, 1) := by decide +kernel
theorem dJ6_bitCount_0f7a4_35 : decode cJ6_bitCount_0f7a4 35 = .ok (.iload_n 0, 1) := by decide +kernel
theorem dJ6_bitCount_0f7a4_36 : decode cJ6_bitCount_0f7a4 36 = .ok (.bipush 8, 2) := by decide +kernel
theorem dJ6_bitCount_0f7a4_38 : decode cJ6_bitCount_0f7a4 38 = .ok (.iushr, 1) := by decide +kernel
theorem dJ6_bitCount_0f7a4_39 : decode cJ6_bitCount_0f7a4 39 = .ok (.iadd, 1) := by decide +kernel
theorem dJ6_bitCount_0f7a4_40 : decode cJ6_bitCount_0f7a4 40 = .ok (.istore_n 0, 1) := by decide +kernel
theorem dJ6_bitCount_0f7a4_41 : decode cJ6_bitCount_0f7a4 41 = .ok (.iload_n 0, 1) := by decide +kernel
theorem dJ6_bitCount_0f7a4_42 : decode cJ6_bitCount_0f7a4 42 = .ok (.iload_n 0, 1) := by decide +kernel
theorem dJ6_bitCount_0f7a4_43 : decode cJ6_bitCount_0f7a4 43 = .ok (.bipush 16, 2) := by decide +kernel
theorem dJ6_bitCount_0f7a4_45 : decode cJ6_bitCount_0f7a4 45 = .ok (.iushr, 1) := by decide +kernel
theorem dJ6_bitCount_0f7a4_46 : decode cJ6_bitCount_0f7a4 46 = .ok (.iadd, 1) := by decide +kernel
theorem dJ6_bitCount_0f7a4_47 : decode cJ6_bitCount_0f7a4 47 = .ok (.istore_n 0, 1) := by decide +kernel
theorem dJ6_bitCount_0f7a4_48 : decode cJ6_bitCount_0f7a4 48 = .ok (.iload_n 0, 1) := by decide +kernel
theorem dJ6_bitCount_0f7a4_49 : decode cJ6_bitCount_0f7a4 49 = .ok (.bipush 63, 2) := by decide +kernel
theorem dJ6_bitCount_0f7a4_51 : decode cJ6_bitCount_0f7a4 51 = .ok (.iand, 1) := by decide +kernel
theorem dJ6_bitCount_0f7a4_52 : decode cJ6_bitCount_0f7a4 52 = .ok (.ireturn, 1) := by decide +kernel
theorem dJ13_bitCount_95d88_0 : decode cJ13_bitCount_95d88 0 = .ok (.lload_n 0, 1) := by decide +kernel
theorem dJ13_bitCount_95d88_1 : decode cJ13_bitCount_95d88 1 = .ok (.lload_n 0, 1) := by decide +kernel
theorem dJ13_bitCount_95d88_2 : decode cJ13_bitCount_95d88 2 = .ok (.iconst 1, 1) := by decide +kernel
theorem dJ13_bitCount_95d88_3 : decode cJ13_bitCount_95d88 3 = .ok (.lushr, 1) := by decide +kernel
theorem dJ13_bitCount_95d88_4 : decode cJ13_bitCount_95d88 4 = .ok (.ldc2_w 314, 3) := by decide +kernel
theorem dJ13_bitCount_95d88_7 : decode cJ13_bitCount_95d88 7 = .ok (.land, 1) := by decide +kernel
theorem dJ13_bitCount_95d88_8 : decode cJ13_bitCount_95d88 8 = .ok (.lsub, 1) := by decide +kernel
theorem dJ13_bitCount_95d88_9 : decode cJ13_bitCount_95d88 9 = .ok (.lstore_n 0, 1) := by decide +kernel
theorem dJ13_bitCount_95d88_10 : decode cJ13_bitCount_95d88 10 = .ok (.lload_n 0, 1) := by decide +kernel
theorem dJ13_bitCount_95d88_11 : decode cJ13_bitCount_95d88 11 = .ok (.ldc2_w 316, 3) := by decide +kernel
theorem dJ13_bitCount_95d88_14 : decode cJ13_bitCount_95d88 14 = .ok (.land, 1) := by decide +kernel
theorem dJ13_bitCount_95d88_15 : decode cJ13_bitCount_95d88 15 = .ok (.lload_n 0, 1) := by decide +kernel
theorem dJ13_bitCount_95d88_16 : decode cJ13_bitCount_95d88 16 = .ok (.iconst 2, 1) := by decide +kernel
theorem dJ13_bitCount_95d88_17 : decode cJ13_bitCount_95d88 17 = .ok (.lushr, 1) := by decide +kernel
theorem dJ13_bitCount_95d88_18 : decode cJ13_bitCount_95d88 18 = .ok (.ldc2_w 316, 3) := by decide +kernel
theorem dJ13_bitCount_95d88_21 : decode cJ13_bitCount_95d88 21 = .ok (.land, 1) := by decide +kernel
theorem dJ13_bitCount_95d88_22 : decode cJ13_bitCount_95d88 22 = .ok (.ladd, 1) := by decide +kernel
theorem dJ13_bitCount_95d88_23 : decode cJ13_bitCount_95d88 23 = .ok (.lstore_n 0, 1) := by decide +kernel
theorem dJ13_bitCount_95d88_24 : decode cJ13_bitCount_95d88 24 = .ok (.lload_n 0, 1) := by decide +kernel
theorem dJ13_bitCount_95d88_25 : decode cJ13_bitCount_95d88 25 = .ok (.lload_n 0, 1) := by decide +kernel
theorem dJ13_bitCount_95d88_26 : decode cJ13_bitCount_95d88 26 = .ok (.iconst 4, 1) := by decide +kernel
theorem dJ13_bitCount_95d88_27 : decode cJ13_bitCount_95d88 27 = .ok (.lushr, 1) := by decide +kernel
theorem dJ13_bitCount_95d88_28 : decode cJ13_bitCount_95d88 28 = .ok (.ladd, 1) := by decide +kernel
theorem dJ13_bitCount_95d88_29 : decode cJ13_bitCount_95d88 29 = .ok (.ldc2_w 318, 3) := by decide +kernel
theorem dJ13_bitCount_95d88_32 : decode cJ13_bitCount_95d88 32 = .ok (.land, 1) := by decide +kernel
theorem dJ13_bitCount_95d88_33 : decode cJ13_bitCount_95d88 33 = .ok (.lstore_n 0, 1) := by decide +kernel
theorem dJ13_bitCount_95d88_34 : decode cJ13_bitCount_95d88 34 = .ok (.lload_n 0, 1) := by decide +kernel
theorem dJ13_bitCount_95d88_35 : decode cJ13_bitCount_95d88 35 = .ok (.lload_n 0, 1) := by decide +kernel
theorem dJ13_bitCount_95d88_36 : decode cJ13_bitCount_95d88 36 = .ok (.bipush 8, 2) := by decide +kernel
theorem dJ13_bitCount_95d88_38 : decode cJ13_bitCount_95d88 38 = .ok (.lushr, 1) := by decide +kernel
theorem dJ13_bitCount_95d88_39 : decode cJ13_bitCount_95d88 39 = .ok (.ladd, 1) := by decide +kernel
theorem dJ13_bitCount_95d88_40 : decode cJ13_bitCount_95d88 40 = .ok (.lstore_n 0, 1) := by decide +kernel
theorem dJ13_bitCount_95d88_41 : decode cJ13_bitCount_95d88 41 = .ok (.lload_n 0, 1) := by decide +kernel
theorem dJ13_bitCount_95d88_42 : decode cJ13_bitCount_95d88 42 = .ok (.lload_n 0, 1) := by decide +kernel
theorem dJ13_bitCount_95d88_43 : decode cJ13_bitCount_95d88 43 = .ok (.bipush 16, 2) := by decide +kernel
theorem dJ13_bitCount_95d88_45 : decode cJ13_bitCount_95d88 45 = .ok (.lushr, 1) := by decide +kernel
theorem dJ13_bitCount_95d88_46 : decode cJ13_bitCount_95d88 46 = .ok (.ladd, 1) := by decide +kernel
theorem dJ13_bitCount_95d88_47 : decode cJ13_bitCount_95d88 47 = .ok (.lstore_n 0, 1) := by decide +kernel
theorem dJ13_bitCount_95d88_48 : decode cJ13_bitCount_95d88 48 = .ok (.lload_n 0, 1) := by decide +kernel
theorem dJ13_bitCount_95d88_49 : decode cJ13_bitCount_95d88 49 = .ok (.lload_n 0, 1) := by decide +kernel
theorem dJ13_bitCount_95d88_50 : decode cJ13_bitCount_95d88 50 = .ok (.bipush 32, 2) := by decide +kernel
theorem dJ13_bitCount_95d88_52 : decode cJ13_bitCount_95d88 52 = .ok (.lushr, 1) := by decide +kernel
theorem dJ13_bitCount_95d88_53 : decode cJ13_bitCount_95d88 53 = .ok (.ladd, 1) := by decide +kernel
theorem dJ13_bitCount_95d88_54 : decode cJ13_bitCount_95d88 54 = .ok (.lstore_n 0, 1) := by decide +kernel
theorem dJ13_bitCount_95d88_55 : decode cJ13_bitCount_95d88 55 = .ok (.lload_n 0, 1) := by decide +kernel
theorem dJ13_bitCount_95d88_56 : decode cJ13_bitCount_95d88 56 = .ok (.l2i, 1) := by decide +kernel
theorem dJ13_bitCount_95d88_57 : decode cJ13_bitCount_95d88 57 = .ok (.bipush 127, 2) := by decide +kernel
theorem dJ13_bitCount_95d88_59 : decode cJ13_bitCount_95d88 59 = .ok (.iand, 1) := by decide +kernel
theorem dJ13_bitCount_95d88_60 : decode cJ13_bitCount_95d88 60 = .ok (.ireturn, 1) := by decide +kernel
theorem dJ9_floorMod_7cf53_0 : decode cJ9_floorMod_7cf53 0 = .ok (.iload_n 0, 1) := by decide +kernel
theorem dJ9_floorMod_7cf53_1 : decode cJ9_floorMod_7cf53 1 = .ok (.iload_n 1, 1) := by decide +kernel
theorem dJ9_floorMod_7cf53_2 : decode cJ9_floorMod_7cf53 2 = .ok (.irem, 1) := by decide +kernel
theorem dJ9_floorMod_7cf53_3 : decode cJ9_floorMod_7cf53 3 = .ok (.istore_n 2, 1) := by decide +kernel
theorem dJ9_floorMod_7cf53_4 : decode cJ9_floorMod_7cf53 4 = .ok (.iload_n 0, 1) := by decide +kernel
theorem dJ9_floorMod_7cf53_5 : decode cJ9_floorMod_7cf53 5 = .ok (.iload_n 1, 1) := by decide +kernel
theorem dJ9_floorMod_7cf53_6 : decode cJ9_floorMod_7cf53 6 = .ok (.ixor, 1) := by decide +kernel
theorem dJ9_floorMod_7cf53_7 : decode cJ9_floorMod_7cf53 7 = .ok (.ifCond .ge 11, 3) := by decide +kernel
theorem dJ9_floorMod_7cf53_10 : decode cJ9_floorMod_7cf53 10 = .ok (.iload_n 2, 1) := by decide +kernel
theorem dJ9_floorMod_7cf53_11 : decode cJ9_floorMod_7cf53 11 = .ok (.ifCond .eq 7, 3) := by decide +kernel
theorem dJ9_floorMod_7cf53_14 : decode cJ9_floorMod_7cf53 14 = .ok (.iload_n 2, 1) := by decide +kernel
theorem dJ9_floorMod_7cf53_15 : decode cJ9_floorMod_7cf53 15 = .ok (.iload_n 1, 1) := by decide +kernel
theorem dJ9_floorMod_7cf53_16 : decode cJ9_floorMod_7cf53 16 = .ok (.iadd, 1) := by decide +kernel
theorem dJ9_floorMod_7cf53_17 : decode cJ9_floorMod_7cf53 17 = .ok (.ireturn, 1) := by decide +kernel
theorem dJ9_floorMod_7cf53_18 : decode cJ9_floorMod_7cf53 18 = .ok (.iload_n 2, 1) := by decide +kernel
theorem dJ9_floorMod_7cf53_19 : decode cJ9_floorMod_7cf53 19 = .ok (.ireturn, 1) := by decide +kernel
theorem dJ9_abs_0f7a4_0 : decode cJ9_abs_0f7a4 0 = .ok (.iload_n 0, 1) := by decide +kernel
theorem dJ9_abs_0f7a4_1 : decode cJ9_abs_0f7a4 1 = .ok (.ifCond .ge 8, 3) := by decide +kernel
theorem dJ9_abs_0f7a4_4 : decode cJ9_abs_0f7a4 4 = .ok (.iload_n 0, 1) := by decide +kernel
theorem dJ9_abs_0f7a4_5 : decode cJ9_abs_0f7a4 5 = .ok (.ineg, 1) := by decide +kernel
theorem dJ9_abs_0f7a4_6 : decode cJ9_abs_0f7a4 6 = .ok (.goto 4, 3) := by decide +kernel
theorem dJ9_abs_0f7a4_9 : decode cJ9_abs_0f7a4 9 = .ok (.iload_n 0, 1) := by decide +kernel
theorem dJ9_abs_0f7a4_10 : decode cJ9_abs_0f7a4 10 = .ok (.ireturn, 1) := by decide +kernel
theorem dJ9_max_7cf53_0 : decode cJ9_max_7cf53 0 = .ok (.iload_n 0, 1) := by decide +kernel
theorem dJ9_max_7cf53_1 : decode cJ9_max_7cf53 1 = .ok (.iload_n 1, 1) := by decide +kernel
theorem dJ9_max_7cf53_2 : decode cJ9_max_7cf53 2 = .ok (.if_icmp .lt 7, 3) := by decide +kernel
theorem dJ9_max_7cf53_5 : decode cJ9_max_7cf53 5 = .ok (.iload_n 0, 1) := by decide +kernel
theorem dJ9_max_7cf53_6 : decode cJ9_max_7cf53 6 = .ok (.goto 4, 3) := by decide +kernel
theorem dJ9_max_7cf53_9 : decode cJ9_max_7cf53 9 = .ok (.iload_n 1, 1) := by decide +kernel
theorem dJ9_max_7cf53_10 : decode cJ9_max_7cf53 10 = .ok (.ireturn, 1) := by decide +kernel
end
section
theorem dL_cell_0 : decode cL_cell 0 = .ok (.iload_n 1, 1) := by decide +kernel
theorem dL_cell_1 : decode cL_cell 1 = .ok (.aload_n 0, 1) := by decide +kernel
theorem dL_cell_2 : decode cL_cell 2 = .ok (.arraylength, 1) := by decide +kernel
theorem dL_cell_3 : decode cL_cell 3 = .ok (.if_icmp .ge 9, 3) := by decide +kernel
theorem dL_cell_6 : decode cL_cell 6 = .ok (.aload_n 0, 1) := by decide +kernel
theorem dL_cell_7 : decode cL_cell 7 = .ok (.iload_n 1, 1) := by decide +kernel
theorem dL_cell_8 : decode cL_cell 8 = .ok (.iaload, 1) := by decide +kernel
theorem dL_cell_9 : decode cL_cell 9 = .ok (.goto 11, 3) := by decide +kernel
theorem dL_cell_12 : decode cL_cell 12 = .ok (.ldc 7, 2) := by decide +kernel
theorem dL_cell_14 : decode cL_cell 14 = .ok (.iload_n 1, 1) := by decide +kernel
theorem dL_cell_15 : decode cL_cell 15 = .ok (.sipush 1069, 3) := by decide +kernel
theorem dL_cell_18 : decode cL_cell 18 = .ok (.iadd, 1) := by decide +kernel
theorem dL_cell_19 : decode cL_cell 19 = .ok (.imul, 1) := by decide +kernel
theorem dL_cell_20 : decode cL_cell 20 = .ok (.ireturn, 1) := by decide +kernel
theorem dL_up_0 : decode cL_up 0 = .ok (.iload_n 0, 1) := by decide +kernel
theorem dL_up_1 : decode cL_up 1 = .ok (.ldc 8, 2) := by decide +kernel
theorem dL_up_3 : decode cL_up 3 = .ok (.iand, 1) := by decide +kernel
theorem dL_up_4 : decode cL_up 4 = .ok (.iload_n 1, 1) := by decide +kernel
theorem dL_up_5 : decode cL_up 5 = .ok (.irem, 1) := by decide +kernel
theorem dL_up_6 : decode cL_up 6 = .ok (.ireturn, 1) := by decide +kernel
theorem dL_isTurned_0 : decode cL_isTurned 0 = .ok (.aload_n 0, 1) := by decide +kernel
theorem dL_isTurned_1 : decode cL_isTurned 1 = .ok (.iconst 1, 1) := by decide +kernel
theorem dL_isTurned_2 : decode cL_isTurned 2 = .ok (.invokevirtual 9, 3) := by decide +kernel
theorem dL_isTurned_5 : decode cL_isTurned 5 = .ok (.istore_n 3, 1) := by decide +kernel
theorem dL_isTurned_6 : decode cL_isTurned 6 = .ok (.aload_n 0, 1) := by decide +kernel
theorem dL_isTurned_7 : decode cL_isTurned 7 = .ok (.iload_n 2, 1) := by decide +kernel
theorem dL_isTurned_8 : decode cL_isTurned 8 = .ok (.iconst 4, 1) := by decide +kernel
theorem dL_isTurned_9 : decode cL_isTurned 9 = .ok (.invokevirtual 36, 3) := by decide +kernel
theorem dL_isTurned_12 : decode cL_isTurned 12 = .ok (.aload_n 1, 1) := by decide +kernel
theorem dL_isTurned_13 : decode cL_isTurned 13 = .ok (.iconst 2, 1) := by decide +kernel
theorem dL_isTurned_14 : decode cL_isTurned 14 = .ok (.iload_n 2, 1) := by decide +kernel
theorem dL_isTurned_15 : decode cL_isTurned 15 = .ok (.imul, 1) := by decide +kernel
theorem dL_isTurned_16 : decode cL_isTurned 16 = .ok (.iconst 4, 1) := by decide +kernel
theorem dL_isTurned_17 : decode cL_isTurned 17 = .ok (.invokevirtual 36, 3) := by decide +kernel
theorem dL_isTurned_20 : decode cL_isTurned 20 = .ok (.if_icmp .ne 93, 3) := by decide +kernel
theorem dL_isTurned_23 : decode cL_isTurned 23 = .ok (.aload_n 1, 1) := by decide +kernel
theorem dL_isTurned_24 : decode cL_isTurned 24 = .ok (.iconst 2, 1) := by decide +kernel
theorem dL_isTurned_25 : decode cL_isTurned 25 = .ok (.iload_n 2, 1) := by decide +kernel
theorem dL_isTurned_26 : decode cL_isTurned 26 = .ok (.imul, 1) := by decide +kernel
theorem dL_isTurned_27 : decode cL_isTurned 27 = .ok (.iconst 1, 1) := by decide +kernel
theorem dL_isTurned_28 : decode cL_isTurned 28 = .ok (.iadd, 1) := by decide +kernel
theorem dL_isTurned_29 : decode cL_isTurned 29 = .ok (.iconst 4, 1) := by decide +kernel
theorem dL_isTurned_30 : decode cL_isTurned 30 = .ok (.invokevirtual 36, 3) := by decide +kernel
theorem dL_isTurned_33 : decode cL_isTurned 33 = .ok (.iload_n 3, 1) := by decide +kernel
theorem dL_isTurned_34 : decode cL_isTurned 34 = .ok (.aload_n 0, 1) := by decide +kernel
theorem dL_isTurned_35 : decode cL_isTurned 35 = .ok (.iload_n 2, 1) := by decide +kernel
theorem dL_isTurned_36 : decode cL_isTurned 36 = .ok (.iconst 4, 1) := by decide +kernel
theorem dL_isTurned_37 : decode cL_isTurned 37 = .ok (.invokevirtual 36, 3) := by decide +kernel
theorem dL_isTurned_40 : decode cL_isTurned 40 = .ok (.isub, 1) := by decide +kernel
theorem dL_isTurned_41 : decode cL_isTurned 41 = .ok (.if_icmp .ne 72, 3) := by decide +kernel
theorem dL_isTurned_44 : decode cL_isTurned 44 = .ok (.aload_n 1, 1) := by decide +kernel
theorem dL_isTurned_45 : decode cL_isTurned 45 = .ok (.iconst 2, 1) := by decide +kernel
theorem dL_isTurned_46 : decode cL_isTurned 46 = .ok (.iload_n 2, 1) := by decide +kernel
theorem dL_isTurned_47 : decode cL_isTurned 47 = .ok (.imul, 1) := by decide +kernel
theorem dL_isTurned_48 : decode cL_isTurned 48 = .ok (.iconst 1, 1) := by decide +kernel
theorem dL_isTurned_49 : decode cL_isTurned 49 = .ok (.iadd, 1) := by decide +kernel
theorem dL_isTurned_50 : decode cL_isTurned 50 = .ok (.bipush 6, 2) := by decide +kernel
theorem dL_isTurned_52 : decode cL_isTurned 52 = .ok (.invokevirtual 36, 3) := by decide +kernel
theorem dL_isTurned_55 : decode cL_isTurned 55 = .ok (.ldc 63, 2) := by decide +kernel
theorem dL_isTurned_57 : decode cL_isTurned 57 = .ok (.aload_n 1, 1) := by decide +kernel
theorem dL_isTurned_58 : decode cL_isTurned 58 = .ok (.iconst 2, 1) := by decide +kernel
theorem dL_isTurned_59 : decode cL_isTurned 59 = .ok (.iload_n 2, 1) := by decide +kernel
theorem dL_isTurned_60 : decode cL_isTurned 60 = .ok (.imul, 1) := by decide +kernel
theorem dL_isTurned_61 : decode cL_isTurned 61 = .ok (.bipush 6, 2) := by decide +kernel
theorem dL_isTurned_63 : decode cL_isTurned 63 = .ok (.invokevirtual 36, 3) := by decide +kernel
theorem dL_isTurned_66 : decode cL_isTurned 66 = .ok (.isub, 1) := by decide +kernel
theorem dL_isTurned_67 : decode cL_isTurned 67 = .ok (.if_icmp .ne 46, 3) := by decide +kernel
theorem dL_isTurned_70 : decode cL_isTurned 70 = .ok (.aload_n 0, 1) := by decide +kernel
theorem dL_isTurned_71 : decode cL_isTurned 71 = .ok (.iload_n 2, 1) := by decide +kernel
theorem dL_isTurned_72 : decode cL_isTurned 72 = .ok (.invokevirtual 64, 3) := by decide +kernel
theorem dL_isTurned_75 : decode cL_isTurned 75 = .ok (.aload_n 1, 1) := by decide +kernel
theorem dL_isTurned_76 : decode cL_isTurned 76 = .ok (.iconst 2, 1) := by decide +kernel
theorem dL_isTurned_77 : decode cL_isTurned 77 = .ok (.iload_n 2, 1) := by decide +kernel
theorem dL_isTurned_78 : decode cL_isTurned 78 = .ok (.imul, 1) := by decide +kernel
theorem dL_isTurned_79 : decode cL_isTurned 79 = .ok (.iconst 1, 1) := by decide +kernel
theorem dL_isTurned_80 : decode cL_isTurned 80 = .ok (.iadd, 1) := by decide +kernel
theorem dL_isTurned_81 : decode cL_isTurned 81 = .ok (.invokevirtual 64, 3) := by decide +kernel
theorem dL_isTurned_84 : decode cL_isTurned 84 = .ok (.if_icmp .ne 29, 3) := by decide +kernel
theorem dL_isTurned_87 : decode cL_isTurned 87 = .ok (.aload_n 0, 1) := by decide +kernel
theorem dL_isTurned_88 : decode cL_isTurned 88 = .ok (.iload_n 2, 1) := by decide +kernel
theorem dL_isTurned_89 : decode cL_isTurned 89 = .ok (.iload_n 2, 1) := by decide +kernel
theorem dL_isTurned_90 : decode cL_isTurned 90 = .ok (.invokevirtual 67, 3) := by decide +kernel
theorem dL_isTurned_93 : decode cL_isTurned 93 = .ok (.aload_n 1, 1) := by decide +kernel
theorem dL_isTurned_94 : decode cL_isTurned 94 = .ok (.iconst 2, 1) := by decide +kernel
theorem dL_isTurned_95 : decode cL_isTurned 95 = .ok (.iload_n 2, 1) := by decide +kernel
theorem dL_isTurned_96 : decode cL_isTurned 96 = .ok (.imul, 1) := by decide +kernel
theorem dL_isTurned_97 : decode cL_isTurned 97 = .ok (.iconst 2, 1) := by decide +kernel
theorem dL_isTurned_98 : decode cL_isTurned 98 = .ok (.iload_n 2, 1) := by decide +kernel
theorem dL_isTurned_99 : decode cL_isTurned 99 = .ok (.imul, 1) := by decide +kernel
theorem dL_isTurned_100 : decode cL_isTurned 100 = .ok (.iconst 1, 1) := by decide +kernel
theorem dL_isTurned_101 : decode cL_isTurned 101 = .ok (.iadd, 1) := by decide +kernel
theorem dL_isTurned_102 : decode cL_isTurned 102 = .ok (.invokevirtual 67, 3) := by decide +kernel
theorem dL_isTurned_105 : decode cL_isTurned 105 = .ok (.ineg, 1) := by decide +kernel
theorem dL_isTurned_106 : decode cL_isTurned 106 = .ok (.if_icmp .ne 7, 3) := by decide +kernel
theorem dL_isTurned_109 : decode cL_isTurned 109 = .ok (.iconst 1, 1) := by decide +kernel
theorem dL_isTurned_110 : decode cL_isTurned 110 = .ok (.goto 4, 3) := by decide +kernel
theorem dL_isTurned_113 : decode cL_isTurned 113 = .ok (.iconst 0, 1) := by decide +kernel
theorem dL_isTurned_114 : decode cL_isTurned 114 = .ok (.istore 4, 2) := by decide +kernel
theorem dL_isTurned_116 : decode cL_isTurned 116 = .ok (.iconst 0, 1) := by decide +kernel
theorem dL_isTurned_117 : decode cL_isTurned 117 = .ok (.istore 5, 2) := by decide +kernel
theorem dL_isTurned_119 : decode cL_isTurned 119 = .ok (.iload 5, 2) := by decide +kernel
theorem dL_isTurned_121 : decode cL_isTurned 121 = .ok (.bipush 40, 2) := by decide +kernel
theorem dL_isTurned_123 : decode cL_isTurned 123 = .ok (.if_icmp .ge 63, 3) := by decide +kernel
theorem dL_isTurned_126 : decode cL_isTurned 126 = .ok (.iload 4, 2) := by decide +kernel
theorem dL_isTurned_128 : decode cL_isTurned 128 = .ok (.ifCond .eq 49, 3) := by decide +kernel
theorem dL_isTurned_131 : decode cL_isTurned 131 = .ok (.aload_n 0, 1) := by decide +kernel
theorem dL_isTurned_132 : decode cL_isTurned 132 = .ok (.iload_n 2, 1) := by decide +kernel
theorem dL_isTurned_133 : decode cL_isTurned 133 = .ok (.iload 5, 2) := by decide +kernel
theorem dL_isTurned_135 : decode cL_isTurned 135 = .ok (.invokevirtual 39, 3) := by decide +kernel
theorem dL_isTurned_138 : decode cL_isTurned 138 = .ok (.aload_n 1, 1) := by decide +kernel
theorem dL_isTurned_139 : decode cL_isTurned 139 = .ok (.iconst 2, 1) := by decide +kernel
theorem dL_isTurned_140 : decode cL_isTurned 140 = .ok (.iload_n 2, 1) := by decide +kernel
theorem dL_isTurned_141 : decode cL_isTurned 141 = .ok (.imul, 1) := by decide +kernel
theorem dL_isTurned_142 : decode cL_isTurned 142 = .ok (.iload 5, 2) := by decide +kernel
theorem dL_isTurned_144 : decode cL_isTurned 144 = .ok (.invokevirtual 39, 3) := by decide +kernel
theorem dL_isTurned_147 : decode cL_isTurned 147 = .ok (.if_icmp .ne 30, 3) := by decide +kernel
theorem dL_isTurned_150 : decode cL_isTurned 150 = .ok (.aload_n 0, 1) := by decide +kernel
theorem dL_isTurned_151 : decode cL_isTurned 151 = .ok (.iload_n 2, 1) := by decide +kernel
theorem dL_isTurned_152 : decode cL_isTurned 152 = .ok (.iload 5, 2) := by decide +kernel
theorem dL_isTurned_154 : decode cL_isTurned 154 = .ok (.invokevirtual 39, 3) := by decide +kernel
theorem dL_isTurned_157 : decode cL_isTurned 157 = .ok (.aload_n 1, 1) := by decide +kernel
theorem dL_isTurned_158 : decode cL_isTurned 158 = .ok (.iconst 2, 1) := by decide +kernel
theorem dL_isTurned_159 : decode cL_isTurned 159 = .ok (.iload_n 2, 1) := by decide +kernel
theorem dL_isTurned_160 : decode cL_isTurned 160 = .ok (.imul, 1) := by decide +kernel
theorem dL_isTurned_161 : decode cL_isTurned 161 = .ok (.iconst 1, 1) := by decide +kernel
theorem dL_isTurned_162 : decode cL_isTurned 162 = .ok (.iadd, 1) := by decide +kernel
theorem dL_isTurned_163 : decode cL_isTurned 163 = .ok (.iload 5, 2) := by decide +kernel
theorem dL_isTurned_165 : decode cL_isTurned 165 = .ok (.invokevirtual 39, 3) := by decide +kernel
theorem dL_isTurned_168 : decode cL_isTurned 168 = .ok (.iadd, 1) := by decide +kernel
theorem dL_isTurned_169 : decode cL_isTurned 169 = .ok (.iconst 1, 1) := by decide +kernel
theorem dL_isTurned_170 : decode cL_isTurned 170 = .ok (.if_icmp .ne 7, 3) := by decide +kernel
theorem dL_isTurned_173 : decode cL_isTurned 173 = .ok (.iconst 1, 1) := by decide +kernel
theorem dL_isTurned_174 : decode cL_isTurned 174 = .ok (.goto 4, 3) := by decide +kernel
theorem dL_isTurned_177 : decode cL_isTurned 177 = .ok (.iconst 0, 1) := by decide +kernel
theorem dL_isTurned_178 : decode cL_isTurned 178 = .ok (.istore 4, 2) := by decide +kernel
theorem dL_isTurned_180 : decode cL_isTurned 180 = .ok (.iinc 5 1, 3) := by decide +kernel
theorem dL_isTurned_183 : decode cL_isTurned 183 = .ok (.goto (-64), 3) := by decide +kernel
theorem dL_isTurned_186 : decode cL_isTurned 186 = .ok (.iload 4, 2) := by decide +kernel
theorem dL_isTurned_188 : decode cL_isTurned 188 = .ok (.ireturn, 1) := by decide +kernel
theorem dL_isLine_0 : decode cL_isLine 0 = .ok (.aload_n 0, 1) := by decide +kernel
theorem dL_isLine_1 : decode cL_isLine 1 = .ok (.iconst 1, 1) := by decide +kernel
theorem dL_isLine_2 : decode cL_isLine 2 = .ok (.invokevirtual 9, 3) := by decide +kernel
theorem dL_isLine_5 : decode cL_isLine 5 = .ok (.istore 4, 2) := by decide +kernel
theorem dL_isLine_7 : decode cL_isLine 7 = .ok (.aload_n 0, 1) := by decide +kernel
theorem dL_isLine_8 : decode cL_isLine 8 = .ok (.iload_n 1, 1) := by decide +kernel
theorem dL_isLine_9 : decode cL_isLine 9 = .ok (.iconst 0, 1) := by decide +kernel
theorem dL_isLine_10 : decode cL_isLine 10 = .ok (.invokevirtual 36, 3) := by decide +kernel
theorem dL_isLine_13 : decode cL_isLine 13 = .ok (.istore 5, 2) := by decide +kernel
theorem dL_isLine_15 : decode cL_isLine 15 = .ok (.aload_n 0, 1) := by decide +kernel
theorem dL_isLine_16 : decode cL_isLine 16 = .ok (.iload_n 1, 1) := by decide +kernel
theorem dL_isLine_17 : decode cL_isLine 17 = .ok (.iconst 1, 1) := by decide +kernel
theorem dL_isLine_18 : decode cL_isLine 18 = .ok (.invokevirtual 36, 3) := by decide +kernel
theorem dL_isLine_21 : decode cL_isLine 21 = .ok (.istore 6, 2) := by decide +kernel
theorem dL_isLine_23 : decode cL_isLine 23 = .ok (.aload_n 0, 1) := by decide +kernel
theorem dL_isLine_24 : decode cL_isLine 24 = .ok (.iload_n 1, 1) := by decide +kernel
theorem dL_isLine_25 : decode cL_isLine 25 = .ok (.iconst 2, 1) := by decide +kernel
theorem dL_isLine_26 : decode cL_isLine 26 = .ok (.invokevirtual 36, 3) := by decide +kernel
theorem dL_isLine_29 : decode cL_isLine 29 = .ok (.istore 7, 2) := by decide +kernel
theorem dL_isLine_31 : decode cL_isLine 31 = .ok (.aload_n 0, 1) := by decide +kernel
theorem dL_isLine_32 : decode cL_isLine 32 = .ok (.iload_n 1, 1) := by decide +kernel
theorem dL_isLine_33 : decode cL_isLine 33 = .ok (.iconst 3, 1) := by decide +kernel
theorem dL_isLine_34 : decode cL_isLine 34 = .ok (.invokevirtual 36, 3) := by decide +kernel
theorem dL_isLine_37 : decode cL_isLine 37 = .ok (.istore 8, 2) := by decide +kernel
theorem dL_isLine_39 : decode cL_isLine 39 = .ok (.aload_n 0, 1) := by decide +kernel
theorem dL_isLine_40 : decode cL_isLine 40 = .ok (.iload_n 1, 1) := by decide +kernel
theorem dL_isLine_41 : decode cL_isLine 41 = .ok (.iconst 4, 1) := by decide +kernel
theorem dL_isLine_42 : decode cL_isLine 42 = .ok (.invokevirtual 36, 3) := by decide +kernel
theorem dL_isLine_45 : decode cL_isLine 45 = .ok (.istore 9, 2) := by decide +kernel
theorem dL_isLine_47 : decode cL_isLine 47 = .ok (.aload_n 0, 1) := by decide +kernel
theorem dL_isLine_48 : decode cL_isLine 48 = .ok (.iload_n 1, 1) := by decide +kernel
theorem dL_isLine_49 : decode cL_isLine 49 = .ok (.iconst 5, 1) := by decide +kernel
theorem dL_isLine_50 : decode cL_isLine 50 = .ok (.invokevirtual 36, 3) := by decide +kernel
theorem dL_isLine_53 : decode cL_isLine 53 = .ok (.istore 10, 2) := by decide +kernel
theorem dL_isLine_55 : decode cL_isLine 55 = .ok (.aload_n 0, 1) := by decide +kernel
theorem dL_isLine_56 : decode cL_isLine 56 = .ok (.iload_n 1, 1) := by decide +kernel
theorem dL_isLine_57 : decode cL_isLine 57 = .ok (.bipush 6, 2) := by decide +kernel
theorem dL_isLine_59 : decode cL_isLine 59 = .ok (.invokevirtual 36, 3) := by decide +kernel
theorem dL_isLine_62 : decode cL_isLine 62 = .ok (.istore 11, 2) := by decide +kernel
theorem dL_isLine_64 : decode cL_isLine 64 = .ok (.iload 9, 2) := by decide +kernel
theorem dL_isLine_66 : decode cL_isLine 66 = .ok (.ifCond .lt 159, 3) := by decide +kernel
theorem dL_isLine_69 : decode cL_isLine 69 = .ok (.iload 9, 2) := by decide +kernel
theorem dL_isLine_71 : decode cL_isLine 71 = .ok (.iload 4, 2) := by decide +kernel
theorem dL_isLine_73 : decode cL_isLine 73 = .ok (.if_icmp .gt 152, 3) := by decide +kernel
theorem dL_isLine_76 : decode cL_isLine 76 = .ok (.iload 10, 2) := by decide +kernel
theorem dL_isLine_78 : decode cL_isLine 78 = .ok (.iload 9, 2) := by decide +kernel
theorem dL_isLine_80 : decode cL_isLine 80 = .ok (.i2l, 1) := by decide +kernel
theorem dL_isLine_81 : decode cL_isLine 81 = .ok (.ldc2_w 70, 3) := by decide +kernel
theorem dL_isLine_84 : decode cL_isLine 84 = .ok (.lmul, 1) := by decide +kernel
theorem dL_isLine_85 : decode cL_isLine 85 = .ok (.iload 4, 2) := by decide +kernel
theorem dL_isLine_87 : decode cL_isLine 87 = .ok (.i2l, 1) := by decide +kernel
theorem dL_isLine_88 : decode cL_isLine 88 = .ok (.ldiv, 1) := by decide +kernel
theorem dL_isLine_89 : decode cL_isLine 89 = .ok (.l2i, 1) := by decide +kernel
theorem dL_isLine_90 : decode cL_isLine 90 = .ok (.if_icmp .ne 135, 3) := by decide +kernel
theorem dL_isLine_93 : decode cL_isLine 93 = .ok (.iload 11, 2) := by decide +kernel
theorem dL_isLine_95 : decode cL_isLine 95 = .ok (.ifCond .lt 130, 3) := by decide +kernel
theorem dL_isLine_98 : decode cL_isLine 98 = .ok (.iload 11, 2) := by decide +kernel
theorem dL_isLine_100 : decode cL_isLine 100 = .ok (.ldc 63, 2) := by decide +kernel
theorem dL_isLine_102 : decode cL_isLine 102 = .ok (.if_icmp .gt 123, 3) := by decide +kernel
theorem dL_isLine_105 : decode cL_isLine 105 = .ok (.aload_n 0, 1) := by decide +kernel
theorem dL_isLine_106 : decode cL_isLine 106 = .ok (.iload_n 1, 1) := by decide +kernel
theorem dL_isLine_107 : decode cL_isLine 107 = .ok (.bipush 7, 2) := by decide +kernel
theorem dL_isLine_109 : decode cL_isLine 109 = .ok (.invokevirtual 36, 3) := by decide +kernel
theorem dL_isLine_112 : decode cL_isLine 112 = .ok (.iload 10, 2) := by decide +kernel
theorem dL_isLine_114 : decode cL_isLine 114 = .ok (.iload 11, 2) := by decide +kernel
theorem dL_isLine_116 : decode cL_isLine 116 = .ok (.if_icmp .le 11, 3) := by decide +kernel
theorem dL_isLine_119 : decode cL_isLine 119 = .ok (.iload 10, 2) := by decide +kernel
theorem dL_isLine_121 : decode cL_isLine 121 = .ok (.iload 11, 2) := by decide +kernel
theorem dL_isLine_123 : decode cL_isLine 123 = .ok (.isub, 1) := by decide +kernel
theorem dL_isLine_124 : decode cL_isLine 124 = .ok (.goto 8, 3) := by decide +kernel
theorem dL_isLine_127 : decode cL_isLine 127 = .ok (.iload 11, 2) := by decide +kernel
theorem dL_isLine_129 : decode cL_isLine 129 = .ok (.iload 10, 2) := by decide +kernel
theorem dL_isLine_131 : decode cL_isLine 131 = .ok (.isub, 1) := by decide +kernel
theorem dL_isLine_132 : decode cL_isLine 132 = .ok (.if_icmp .ne 93, 3) := by decide +kernel
theorem dL_isLine_135 : decode cL_isLine 135 = .ok (.aload_n 0, 1) := by decide +kernel
theorem dL_isLine_136 : decode cL_isLine 136 = .ok (.iload_n 1, 1) := by decide +kernel
theorem dL_isLine_137 : decode cL_isLine 137 = .ok (.iload 4, 2) := by decide +kernel
theorem dL_isLine_139 : decode cL_isLine 139 = .ok (.invokevirtual 72, 3) := by decide +kernel
theorem dL_isLine_142 : decode cL_isLine 142 = .ok (.aload_n 0, 1) := by decide +kernel
theorem dL_isLine_143 : decode cL_isLine 143 = .ok (.iload_n 1, 1) := by decide +kernel
theorem dL_isLine_144 : decode cL_isLine 144 = .ok (.bipush 7, 2) := by decide +kernel
theorem dL_isLine_146 : decode cL_isLine 146 = .ok (.invokevirtual 36, 3) := by decide +kernel
theorem dL_isLine_149 : decode cL_isLine 149 = .ok (.if_icmp .ne 76, 3) := by decide +kernel
theorem dL_isLine_152 : decode cL_isLine 152 = .ok (.aload_n 0, 1) := by decide +kernel
theorem dL_isLine_153 : decode cL_isLine 153 = .ok (.iload_n 1, 1) := by decide +kernel
theorem dL_isLine_154 : decode cL_isLine 154 = .ok (.bipush 9, 2) := by decide +kernel
theorem dL_isLine_156 : decode cL_isLine 156 = .ok (.invokevirtual 36, 3) := by decide +kernel
theorem dL_isLine_159 : decode cL_isLine 159 = .ok (.iconst 1, 1) := by decide +kernel
theorem dL_isLine_160 : decode cL_isLine 160 = .ok (.if_icmp .lt 65, 3) := by decide +kernel
theorem dL_isLine_163 : decode cL_isLine 163 = .ok (.aload_n 0, 1) := by decide +kernel
theorem dL_isLine_164 : decode cL_isLine 164 = .ok (.iload_n 1, 1) := by decide +kernel
theorem dL_isLine_165 : decode cL_isLine 165 = .ok (.bipush 9, 2) := by decide +kernel
theorem dL_isLine_167 : decode cL_isLine 167 = .ok (.invokevirtual 36, 3) := by decide +kernel
theorem dL_isLine_170 : decode cL_isLine 170 = .ok (.aload_n 0, 1) := by decide +kernel
theorem dL_isLine_171 : decode cL_isLine 171 = .ok (.iconst 2, 1) := by decide +kernel
theorem dL_isLine_172 : decode cL_isLine 172 = .ok (.invokevirtual 9, 3) := by decide +kernel
theorem dL_isLine_175 : decode cL_isLine 175 = .ok (.if_icmp .gt 50, 3) := by decide +kernel
theorem dL_isLine_178 : decode cL_isLine 178 = .ok (.aload_n 0, 1) := by decide +kernel
theorem dL_isLine_179 : decode cL_isLine 179 = .ok (.iload_n 1, 1) := by decide +kernel
theorem dL_isLine_180 : decode cL_isLine 180 = .ok (.bipush 8, 2) := by decide +kernel
theorem dL_isLine_182 : decode cL_isLine 182 = .ok (.invokevirtual 36, 3) := by decide +kernel
theorem dL_isLine_185 : decode cL_isLine 185 = .ok (.ifCond .ne 7, 3) := by decide +kernel
theorem dL_isLine_188 : decode cL_isLine 188 = .ok (.iconst 1, 1) := by decide +kernel
theorem dL_isLine_189 : decode cL_isLine 189 = .ok (.goto 4, 3) := by decide +kernel
theorem dL_isLine_192 : decode cL_isLine 192 = .ok (.iconst 0, 1) := by decide +kernel
theorem dL_isLine_193 : decode cL_isLine 193 = .ok (.iload 5, 2) := by decide +kernel
theorem dL_isLine_195 : decode cL_isLine 195 = .ok (.ifCond .ne 7, 3) := by decide +kernel
theorem dL_isLine_198 : decode cL_isLine 198 = .ok (.iconst 1, 1) := by decide +kernel
theorem dL_isLine_199 : decode cL_isLine 199 = .ok (.goto 4, 3) := by decide +kernel
theorem dL_isLine_202 : decode cL_isLine 202 = .ok (.iconst 0, 1) := by decide +kernel
theorem dL_isLine_203 : decode cL_isLine 203 = .ok (.if_icmp .ne 22, 3) := by decide +kernel
theorem dL_isLine_206 : decode cL_isLine 206 = .ok (.aload_n 0, 1) := by decide +kernel
theorem dL_isLine_207 : decode cL_isLine 207 = .ok (.iload_n 1, 1) := by decide +kernel
theorem dL_isLine_208 : decode cL_isLine 208 = .ok (.bipush 8, 2) := by decide +kernel
theorem dL_isLine_210 : decode cL_isLine 210 = .ok (.invokevirtual 36, 3) := by decide +kernel
theorem dL_isLine_213 : decode cL_isLine 213 = .ok (.aload_n 0, 1) := by decide +kernel
theorem dL_isLine_214 : decode cL_isLine 214 = .ok (.iconst 5, 1) := by decide +kernel
theorem dL_isLine_215 : decode cL_isLine 215 = .ok (.invokevirtual 9, 3) := by decide +kernel
theorem dL_isLine_218 : decode cL_isLine 218 = .ok (.if_icmp .gt 7, 3) := by decide +kernel
theorem dL_isLine_221 : decode cL_isLine 221 = .ok (.iconst 1, 1) := by decide +kernel
theorem dL_isLine_222 : decode cL_isLine 222 = .ok (.goto 4, 3) := by decide +kernel
theorem dL_isLine_225 : decode cL_isLine 225 = .ok (.iconst 0, 1) := by decide +kernel
theorem dL_isLine_226 : decode cL_isLine 226 = .ok (.istore 12, 2) := by decide +kernel
theorem dL_isLine_228 : decode cL_isLine 228 = .ok (.iload_n 3, 1) := by decide +kernel
theorem dL_isLine_229 : decode cL_isLine 229 = .ok (.bipush 60, 2) := by decide +kernel
theorem dL_isLine_231 : decode cL_isLine 231 = .ok (.invokestatic 15, 3) := by decide +kernel
theorem dL_isLine_234 : decode cL_isLine 234 = .ok (.istore 13, 2) := by decide +kernel
theorem dL_isLine_236 : decode cL_isLine 236 = .ok (.iload 13, 2) := by decide +kernel
theorem dL_isLine_238 : decode cL_isLine 238 = .ok (.sipush 1000, 3) := by decide +kernel
theorem dL_isLine_241 : decode cL_isLine 241 = .ok (.if_icmp .ge 288, 3) := by decide +kernel
theorem dL_isLine_244 : decode cL_isLine 244 = .ok (.iload 12, 2) := by decide +kernel
theorem dL_isLine_246 : decode cL_isLine 246 = .ok (.ifCond .eq 283, 3) := by decide +kernel
theorem dL_isLine_249 : decode cL_isLine 249 = .ok (.aload_n 0, 1) := by decide +kernel
theorem dL_isLine_250 : decode cL_isLine 250 = .ok (.iload_n 1, 1) := by decide +kernel
theorem dL_isLine_251 : decode cL_isLine 251 = .ok (.iload 13, 2) := by decide +kernel
theorem dL_isLine_253 : decode cL_isLine 253 = .ok (.invokevirtual 39, 3) := by decide +kernel
theorem dL_isLine_256 : decode cL_isLine 256 = .ok (.istore 14, 2) := by decide +kernel
theorem dL_isLine_258 : decode cL_isLine 258 = .ok (.iload 14, 2) := by decide +kernel
theorem dL_isLine_260 : decode cL_isLine 260 = .ok (.ifCond .eq 9, 3) := by decide +kernel
theorem dL_isLine_263 : decode cL_isLine 263 = .ok (.iload 14, 2) := by decide +kernel
theorem dL_isLine_265 : decode cL_isLine 265 = .ok (.iconst 1, 1) := by decide +kernel
theorem dL_isLine_266 : decode cL_isLine 266 = .ok (.if_icmp .ne 7, 3) := by decide +kernel
theorem dL_isLine_269 : decode cL_isLine 269 = .ok (.iconst 1, 1) := by decide +kernel
theorem dL_isLine_270 : decode cL_isLine 270 = .ok (.goto 4, 3) := by decide +kernel
theorem dL_isLine_273 : decode cL_isLine 273 = .ok (.iconst 0, 1) := by decide +kernel
theorem dL_isLine_274 : decode cL_isLine 274 = .ok (.istore 12, 2) := by decide +kernel
theorem dL_isLine_276 : decode cL_isLine 276 = .ok (.iload 5, 2) := by decide +kernel
theorem dL_isLine_278 : decode cL_isLine 278 = .ok (.iconst 1, 1) := by decide +kernel
theorem dL_isLine_279 : decode cL_isLine 279 = .ok (.if_icmp .eq 15, 3) := by decide +kernel
theorem dL_isLine_282 : decode cL_isLine 282 = .ok (.iload 5, 2) := by decide +kernel
theorem dL_isLine_284 : decode cL_isLine 284 = .ok (.iconst 2, 1) := by decide +kernel
theorem dL_isLine_285 : decode cL_isLine 285 = .ok (.if_icmp .eq 9, 3) := by decide +kernel
theorem dL_isLine_288 : decode cL_isLine 288 = .ok (.iload 5, 2) := by decide +kernel
theorem dL_isLine_290 : decode cL_isLine 290 = .ok (.iconst 3, 1) := by decide +kernel
theorem dL_isLine_291 : decode cL_isLine 291 = .ok (.if_icmp .ne 74, 3) := by decide +kernel
theorem dL_isLine_294 : decode cL_isLine 294 = .ok (.aload_n 0, 1) := by decide +kernel
theorem dL_isLine_295 : decode cL_isLine 295 = .ok (.iload 6, 2) := by decide +kernel
theorem dL_isLine_297 : decode cL_isLine 297 = .ok (.iload 13, 2) := by decide +kernel
theorem dL_isLine_299 : decode cL_isLine 299 = .ok (.invokevirtual 39, 3) := by decide +kernel
theorem dL_isLine_302 : decode cL_isLine 302 = .ok (.aload_n 0, 1) := by decide +kernel
theorem dL_isLine_303 : decode cL_isLine 303 = .ok (.iload 7, 2) := by decide +kernel
theorem dL_isLine_305 : decode cL_isLine 305 = .ok (.iload 13, 2) := by decide +kernel
theorem dL_isLine_307 : decode cL_isLine 307 = .ok (.invokevirtual 39, 3) := by decide +kernel
theorem dL_isLine_310 : decode cL_isLine 310 = .ok (.iadd, 1) := by decide +kernel
theorem dL_isLine_311 : decode cL_isLine 311 = .ok (.istore 15, 2) := by decide +kernel
theorem dL_isLine_313 : decode cL_isLine 313 = .ok (.iload 12, 2) := by decide +kernel
theorem dL_isLine_315 : decode cL_isLine 315 = .ok (.ifCond .eq 44, 3) := by decide +kernel
theorem dL_isLine_318 : decode cL_isLine 318 = .ok (.iload 14, 2) := by decide +kernel
theorem dL_isLine_320 : decode cL_isLine 320 = .ok (.iload 5, 2) := by decide +kernel
theorem dL_isLine_322 : decode cL_isLine 322 = .ok (.iconst 1, 1) := by decide +kernel
theorem dL_isLine_323 : decode cL_isLine 323 = .ok (.if_icmp .ne 10, 3) := by decide +kernel
theorem dL_isLine_326 : decode cL_isLine 326 = .ok (.iload 15, 2) := by decide +kernel
theorem dL_isLine_328 : decode cL_isLine 328 = .ok (.iconst 2, 1) := by decide +kernel
theorem dL_isLine_329 : decode cL_isLine 329 = .ok (.idiv, 1) := by decide +kernel
theorem dL_isLine_330 : decode cL_isLine 330 = .ok (.goto 22, 3) := by decide +kernel
theorem dL_isLine_333 : decode cL_isLine 333 = .ok (.iload 5, 2) := by decide +kernel
theorem dL_isLine_335 : decode cL_isLine 335 = .ok (.iconst 2, 1) := by decide +kernel
theorem dL_isLine_336 : decode cL_isLine 336 = .ok (.if_icmp .ne 12, 3) := by decide +kernel
theorem dL_isLine_339 : decode cL_isLine 339 = .ok (.iload 15, 2) := by decide +kernel
theorem dL_isLine_341 : decode cL_isLine 341 = .ok (.iconst 1, 1) := by decide +kernel
theorem dL_isLine_342 : decode cL_isLine 342 = .ok (.iadd, 1) := by decide +kernel
theorem dL_isLine_343 : decode cL_isLine 343 = .ok (.iconst 2, 1) := by decide +kernel
theorem dL_isLine_344 : decode cL_isLine 344 = .ok (.idiv, 1) := by decide +kernel
theorem dL_isLine_345 : decode cL_isLine 345 = .ok (.goto 7, 3) := by decide +kernel
theorem dL_isLine_348 : decode cL_isLine 348 = .ok (.iload 15, 2) := by decide +kernel
theorem dL_isLine_350 : decode cL_isLine 350 = .ok (.iconst 2, 1) := by decide +kernel
theorem dL_isLine_351 : decode cL_isLine 351 = .ok (.irem, 1) := by decide +kernel
theorem dL_isLine_352 : decode cL_isLine 352 = .ok (.if_icmp .ne 7, 3) := by decide +kernel
theorem dL_isLine_355 : decode cL_isLine 355 = .ok (.iconst 1, 1) := by decide +kernel
theorem dL_isLine_356 : decode cL_isLine 356 = .ok (.goto 4, 3) := by decide +kernel
theorem dL_isLine_359 : decode cL_isLine 359 = .ok (.iconst 0, 1) := by decide +kernel
theorem dL_isLine_360 : decode cL_isLine 360 = .ok (.istore 12, 2) := by decide +kernel
theorem dL_isLine_362 : decode cL_isLine 362 = .ok (.goto 161, 3) := by decide +kernel
theorem dL_isLine_365 : decode cL_isLine 365 = .ok (.iload 5, 2) := by decide +kernel
theorem dL_isLine_367 : decode cL_isLine 367 = .ok (.iconst 4, 1) := by decide +kernel
theorem dL_isLine_368 : decode cL_isLine 368 = .ok (.if_icmp .ne 48, 3) := by decide +kernel
theorem dL_isLine_371 : decode cL_isLine 371 = .ok (.iload 12, 2) := by decide +kernel
theorem dL_isLine_373 : decode cL_isLine 373 = .ok (.ifCond .eq 37, 3) := by decide +kernel
theorem dL_isLine_376 : decode cL_isLine 376 = .ok (.iload 14, 2) := by decide +kernel
theorem dL_isLine_378 : decode cL_isLine 378 = .ok (.aload_n 0, 1) := by decide +kernel
theorem dL_isLine_379 : decode cL_isLine 379 = .ok (.aload_n 0, 1) := by decide +kernel
theorem dL_isLine_380 : decode cL_isLine 380 = .ok (.iload 8, 2) := by decide +kernel
theorem dL_isLine_382 : decode cL_isLine 382 = .ok (.iload 13, 2) := by decide +kernel
theorem dL_isLine_384 : decode cL_isLine 384 = .ok (.invokevirtual 39, 3) := by decide +kernel
theorem dL_isLine_387 : decode cL_isLine 387 = .ok (.iconst 1, 1) := by decide +kernel
theorem dL_isLine_388 : decode cL_isLine 388 = .ok (.if_icmp .ne 8, 3) := by decide +kernel
theorem dL_isLine_391 : decode cL_isLine 391 = .ok (.iload 6, 2) := by decide +kernel
theorem dL_isLine_393 : decode cL_isLine 393 = .ok (.goto 5, 3) := by decide +kernel
theorem dL_isLine_396 : decode cL_isLine 396 = .ok (.iload 7, 2) := by decide +kernel
theorem dL_isLine_398 : decode cL_isLine 398 = .ok (.iload 13, 2) := by decide +kernel
theorem dL_isLine_400 : decode cL_isLine 400 = .ok (.invokevirtual 39, 3) := by decide +kernel
theorem dL_isLine_403 : decode cL_isLine 403 = .ok (.if_icmp .ne 7, 3) := by decide +kernel
theorem dL_isLine_406 : decode cL_isLine 406 = .ok (.iconst 1, 1) := by decide +kernel
theorem dL_isLine_407 : decode cL_isLine 407 = .ok (.goto 4, 3) := by decide +kernel
theorem dL_isLine_410 : decode cL_isLine 410 = .ok (.iconst 0, 1) := by decide +kernel
theorem dL_isLine_411 : decode cL_isLine 411 = .ok (.istore 12, 2) := by decide +kernel
theorem dL_isLine_413 : decode cL_isLine 413 = .ok (.goto 110, 3) := by decide +kernel
theorem dL_isLine_416 : decode cL_isLine 416 = .ok (.iload 5, 2) := by decide +kernel
theorem dL_isLine_418 : decode cL_isLine 418 = .ok (.iconst 4, 1) := by decide +kernel
theorem dL_isLine_419 : decode cL_isLine 419 = .ok (.if_icmp .le 64, 3) := by decide +kernel
theorem dL_isLine_422 : decode cL_isLine 422 = .ok (.iload 12, 2) := by decide +kernel
theorem dL_isLine_424 : decode cL_isLine 424 = .ok (.ifCond .eq 53, 3) := by decide +kernel
theorem dL_isLine_427 : decode cL_isLine 427 = .ok (.iload 14, 2) := by decide +kernel
theorem dL_isLine_429 : decode cL_isLine 429 = .ok (.iload 5, 2) := by decide +kernel
theorem dL_isLine_431 : decode cL_isLine 431 = .ok (.iconst 5, 1) := by decide +kernel
theorem dL_isLine_432 : decode cL_isLine 432 = .ok (.if_icmp .ne 16, 3) := by decide +kernel
theorem dL_isLine_435 : decode cL_isLine 435 = .ok (.iconst 1, 1) := by decide +kernel
theorem dL_isLine_436 : decode cL_isLine 436 = .ok (.aload_n 0, 1) := by decide +kernel
theorem dL_isLine_437 : decode cL_isLine 437 = .ok (.iload 6, 2) := by decide +kernel
theorem dL_isLine_439 : decode cL_isLine 439 = .ok (.iload 13, 2) := by decide +kernel
theorem dL_isLine_441 : decode cL_isLine 441 = .ok (.invokevirtual 39, 3) := by decide +kernel
theorem dL_isLine_444 : decode cL_isLine 444 = .ok (.isub, 1) := by decide +kernel
theorem dL_isLine_445 : decode cL_isLine 445 = .ok (.goto 25, 3) := by decide +kernel
theorem dL_isLine_448 : decode cL_isLine 448 = .ok (.iload 13, 2) := by decide +kernel
theorem dL_isLine_450 : decode cL_isLine 450 = .ok (.iload 7, 2) := by decide +kernel
theorem dL_isLine_452 : decode cL_isLine 452 = .ok (.if_icmp .ge 7, 3) := by decide +kernel
theorem dL_isLine_455 : decode cL_isLine 455 = .ok (.iconst 0, 1) := by decide +kernel
theorem dL_isLine_456 : decode cL_isLine 456 = .ok (.goto 14, 3) := by decide +kernel
theorem dL_isLine_459 : decode cL_isLine 459 = .ok (.aload_n 0, 1) := by decide +kernel
theorem dL_isLine_460 : decode cL_isLine 460 = .ok (.iload 6, 2) := by decide +kernel
theorem dL_isLine_462 : decode cL_isLine 462 = .ok (.iload 13, 2) := by decide +kernel
theorem dL_isLine_464 : decode cL_isLine 464 = .ok (.iload 7, 2) := by decide +kernel
theorem dL_isLine_466 : decode cL_isLine 466 = .ok (.isub, 1) := by decide +kernel
theorem dL_isLine_467 : decode cL_isLine 467 = .ok (.invokevirtual 39, 3) := by decide +kernel
theorem dL_isLine_470 : decode cL_isLine 470 = .ok (.if_icmp .ne 7, 3) := by decide +kernel
theorem dL_isLine_473 : decode cL_isLine 473 = .ok (.iconst 1, 1) := by decide +kernel
theorem dL_isLine_474 : decode cL_isLine 474 = .ok (.goto 4, 3) := by decide +kernel
theorem dL_isLine_477 : decode cL_isLine 477 = .ok (.iconst 0, 1) := by decide +kernel
theorem dL_isLine_478 : decode cL_isLine 478 = .ok (.istore 12, 2) := by decide +kernel
theorem dL_isLine_480 : decode cL_isLine 480 = .ok (.goto 43, 3) := by decide +kernel
theorem dL_isLine_483 : decode cL_isLine 483 = .ok (.iload 12, 2) := by decide +kernel
theorem dL_isLine_485 : decode cL_isLine 485 = .ok (.ifCond .eq 35, 3) := by decide +kernel
theorem dL_isLine_488 : decode cL_isLine 488 = .ok (.iload 13, 2) := by decide +kernel
theorem dL_isLine_490 : decode cL_isLine 490 = .ok (.sipush 255, 3) := by decide +kernel
theorem dL_isLine_493 : decode cL_isLine 493 = .ok (.iadd, 1) := by decide +kernel
theorem dL_isLine_494 : decode cL_isLine 494 = .ok (.sipush 999, 3) := by decide +kernel
theorem dL_isLine_497 : decode cL_isLine 497 = .ok (.if_icmp .gt 19, 3) := by decide +kernel
theorem dL_isLine_500 : decode cL_isLine 500 = .ok (.iload 14, 2) := by decide +kernel
theorem dL_isLine_502 : decode cL_isLine 502 = .ok (.aload_n 0, 1) := by decide +kernel
theorem dL_isLine_503 : decode cL_isLine 503 = .ok (.iload_n 1, 1) := by decide +kernel
theorem dL_isLine_504 : decode cL_isLine 504 = .ok (.iload 13, 2) := by decide +kernel
theorem dL_isLine_506 : decode cL_isLine 506 = .ok (.sipush 255, 3) := by decide +kernel
theorem dL_isLine_509 : decode cL_isLine 509 = .ok (.iadd, 1) := by decide +kernel
theorem dL_isLine_510 : decode cL_isLine 510 = .ok (.invokevirtual 39, 3) := by decide +kernel
theorem dL_isLine_513 : decode cL_isLine 513 = .ok (.if_icmp .ne 7, 3) := by decide +kernel
theorem dL_isLine_516 : decode cL_isLine 516 = .ok (.iconst 1, 1) := by decide +kernel
theorem dL_isLine_517 : decode cL_isLine 517 = .ok (.goto 4, 3) := by decide +kernel
theorem dL_isLine_520 : decode cL_isLine 520 = .ok (.iconst 0, 1) := by decide +kernel
theorem dL_isLine_521 : decode cL_isLine 521 = .ok (.istore 12, 2) := by decide +kernel
theorem dL_isLine_523 : decode cL_isLine 523 = .ok (.iinc 13 97, 3) := by decide +kernel
theorem dL_isLine_526 : decode cL_isLine 526 = .ok (.goto (-290), 3) := by decide +kernel
theorem dL_isLine_529 : decode cL_isLine 529 = .ok (.aload_n 0, 1) := by decide +kernel
theorem dL_isLine_530 : decode cL_isLine 530 = .ok (.iload_n 1, 1) := by decide +kernel
theorem dL_isLine_531 : decode cL_isLine 531 = .ok (.aload_n 0, 1) := by decide +kernel
theorem dL_isLine_532 : decode cL_isLine 532 = .ok (.iload_n 1, 1) := by decide +kernel
theorem dL_isLine_533 : decode cL_isLine 533 = .ok (.sipush 1000, 3) := by decide +kernel
theorem dL_isLine_536 : decode cL_isLine 536 = .ok (.invokevirtual 72, 3) := by decide +kernel
theorem dL_isLine_539 : decode cL_isLine 539 = .ok (.invokevirtual 75, 3) := by decide +kernel
theorem dL_isLine_542 : decode cL_isLine 542 = .ok (.istore 13, 2) := by decide +kernel
theorem dL_isLine_544 : decode cL_isLine 544 = .ok (.aload_n 0, 1) := by decide +kernel
theorem dL_isLine_545 : decode cL_isLine 545 = .ok (.iload_n 1, 1) := by decide +kernel
theorem dL_isLine_546 : decode cL_isLine 546 = .ok (.iload_n 2, 1) := by decide +kernel
theorem dL_isLine_547 : decode cL_isLine 547 = .ok (.invokevirtual 67, 3) := by decide +kernel
theorem dL_isLine_550 : decode cL_isLine 550 = .ok (.istore 14, 2) := by decide +kernel
theorem dL_isLine_552 : decode cL_isLine 552 = .ok (.iload 12, 2) := by decide +kernel
theorem dL_isLine_554 : decode cL_isLine 554 = .ok (.ifCond .eq 61, 3) := by decide +kernel
theorem dL_isLine_557 : decode cL_isLine 557 = .ok (.iload 13, 2) := by decide +kernel
theorem dL_isLine_559 : decode cL_isLine 559 = .ok (.iconst 1, 1) := by decide +kernel
theorem dL_isLine_560 : decode cL_isLine 560 = .ok (.if_icmp .lt 55, 3) := by decide +kernel
theorem dL_isLine_563 : decode cL_isLine 563 = .ok (.iload 13, 2) := by decide +kernel
theorem dL_isLine_565 : decode cL_isLine 565 = .ok (.sipush 1000, 3) := by decide +kernel
theorem dL_isLine_568 : decode cL_isLine 568 = .ok (.if_icmp .gt 47, 3) := by decide +kernel
theorem dL_isLine_571 : decode cL_isLine 571 = .ok (.iload 14, 2) := by decide +kernel
theorem dL_isLine_573 : decode cL_isLine 573 = .ok (.aload_n 0, 1) := by decide +kernel
theorem dL_isLine_574 : decode cL_isLine 574 = .ok (.iload_n 2, 1) := by decide +kernel
theorem dL_isLine_575 : decode cL_isLine 575 = .ok (.iload_n 1, 1) := by decide +kernel
theorem dL_isLine_576 : decode cL_isLine 576 = .ok (.invokevirtual 67, 3) := by decide +kernel
theorem dL_isLine_579 : decode cL_isLine 579 = .ok (.if_icmp .ne 36, 3) := by decide +kernel
theorem dL_isLine_582 : decode cL_isLine 582 = .ok (.iload 14, 2) := by decide +kernel
theorem dL_isLine_584 : decode cL_isLine 584 = .ok (.sipush 16384, 3) := by decide +kernel
theorem dL_isLine_587 : decode cL_isLine 587 = .ok (.if_icmp .gt 28, 3) := by decide +kernel
theorem dL_isLine_590 : decode cL_isLine 590 = .ok (.iload 14, 2) := by decide +kernel
theorem dL_isLine_592 : decode cL_isLine 592 = .ok (.sipush (-16384), 3) := by decide +kernel
theorem dL_isLine_595 : decode cL_isLine 595 = .ok (.if_icmp .lt 20, 3) := by decide +kernel
theorem dL_isLine_598 : decode cL_isLine 598 = .ok (.iload 5, 2) := by decide +kernel
theorem dL_isLine_600 : decode cL_isLine 600 = .ok (.ifCond .gt 11, 3) := by decide +kernel
theorem dL_isLine_603 : decode cL_isLine 603 = .ok (.aload_n 0, 1) := by decide +kernel
theorem dL_isLine_604 : decode cL_isLine 604 = .ok (.iload_n 1, 1) := by decide +kernel
theorem dL_isLine_605 : decode cL_isLine 605 = .ok (.invokevirtual 64, 3) := by decide +kernel
theorem dL_isLine_608 : decode cL_isLine 608 = .ok (.ifCond .ne 7, 3) := by decide +kernel
theorem dL_isLine_611 : decode cL_isLine 611 = .ok (.iconst 1, 1) := by decide +kernel
theorem dL_isLine_612 : decode cL_isLine 612 = .ok (.goto 4, 3) := by decide +kernel
theorem dL_isLine_615 : decode cL_isLine 615 = .ok (.iconst 0, 1) := by decide +kernel
theorem dL_isLine_616 : decode cL_isLine 616 = .ok (.ireturn, 1) := by decide +kernel
theorem dL_isWell_0 : decode cL_isWell 0 = .ok (.aload_n 0, 1) := by decide +kernel
theorem dL_isWell_1 : decode cL_isWell 1 = .ok (.iconst 0, 1) := by decide +kernel
theorem dL_isWell_2 : decode cL_isWell 2 = .ok (.invokevirtual 9, 3) := by decide +kernel
theorem dL_isWell_5 : decode cL_isWell 5 = .ok (.istore_n 1, 1) := by decide +kernel
theorem dL_isWell_6 : decode cL_isWell 6 = .ok (.iconst 0, 1) := by decide +kernel
theorem dL_isWell_7 : decode cL_isWell 7 = .ok (.istore_n 2, 1) := by decide +kernel
theorem dL_isWell_8 : decode cL_isWell 8 = .ok (.iconst 0, 1) := by decide +kernel
theorem dL_isWell_9 : decode cL_isWell 9 = .ok (.istore_n 3, 1) := by decide +kernel
theorem dL_isWell_10 : decode cL_isWell 10 = .ok (.iconst 0, 1) := by decide +kernel
theorem dL_isWell_11 : decode cL_isWell 11 = .ok (.istore 4, 2) := by decide +kernel
theorem dL_isWell_13 : decode cL_isWell 13 = .ok (.aload_n 0, 1) := by decide +kernel
theorem dL_isWell_14 : decode cL_isWell 14 = .ok (.iconst 4, 1) := by decide +kernel
theorem dL_isWell_15 : decode cL_isWell 15 = .ok (.invokevirtual 9, 3) := by decide +kernel
theorem dL_isWell_18 : decode cL_isWell 18 = .ok (.istore 5, 2) := by decide +kernel
theorem dL_isWell_20 : decode cL_isWell 20 = .ok (.iload 5, 2) := by decide +kernel
theorem dL_isWell_22 : decode cL_isWell 22 = .ok (.ldc 78, 2) := by decide +kernel
theorem dL_isWell_24 : decode cL_isWell 24 = .ok (.if_icmp .ne 7, 3) := by decide +kernel
theorem dL_isWell_27 : decode cL_isWell 27 = .ok (.iconst 1, 1) := by decide +kernel
theorem dL_isWell_28 : decode cL_isWell 28 = .ok (.goto 4, 3) := by decide +kernel
theorem dL_isWell_31 : decode cL_isWell 31 = .ok (.iconst 0, 1) := by decide +kernel
theorem dL_isWell_32 : decode cL_isWell 32 = .ok (.iload_n 1, 1) := by decide +kernel
theorem dL_isWell_33 : decode cL_isWell 33 = .ok (.ifCond .ne 7, 3) := by decide +kernel
theorem dL_isWell_36 : decode cL_isWell 36 = .ok (.iconst 1, 1) := by decide +kernel
theorem dL_isWell_37 : decode cL_isWell 37 = .ok (.goto 4, 3) := by decide +kernel
theorem dL_isWell_40 : decode cL_isWell 40 = .ok (.iconst 0, 1) := by decide +kernel
theorem dL_isWell_41 : decode cL_isWell 41 = .ok (.if_icmp .ne 7, 3) := by decide +kernel
theorem dL_isWell_44 : decode cL_isWell 44 = .ok (.iconst 1, 1) := by decide +kernel
theorem dL_isWell_45 : decode cL_isWell 45 = .ok (.goto 4, 3) := by decide +kernel
theorem dL_isWell_48 : decode cL_isWell 48 = .ok (.iconst 0, 1) := by decide +kernel
theorem dL_isWell_49 : decode cL_isWell 49 = .ok (.istore 6, 2) := by decide +kernel
theorem dL_isWell_51 : decode cL_isWell 51 = .ok (.iconst 0, 1) := by decide +kernel
theorem dL_isWell_52 : decode cL_isWell 52 = .ok (.istore 7, 2) := by decide +kernel
theorem dL_isWell_54 : decode cL_isWell 54 = .ok (.iload 7, 2) := by decide +kernel
theorem dL_isWell_56 : decode cL_isWell 56 = .ok (.iload_n 1, 1) := by decide +kernel
theorem dL_isWell_57 : decode cL_isWell 57 = .ok (.if_icmp .ge 123, 3) := by decide +kernel
theorem dL_isWell_60 : decode cL_isWell 60 = .ok (.iload 6, 2) := by decide +kernel
theorem dL_isWell_62 : decode cL_isWell 62 = .ok (.ifCond .eq 118, 3) := by decide +kernel
theorem dL_isWell_65 : decode cL_isWell 65 = .ok (.iload_n 2, 1) := by decide +kernel
theorem dL_isWell_66 : decode cL_isWell 66 = .ok (.aload_n 0, 1) := by decide +kernel
theorem dL_isWell_67 : decode cL_isWell 67 = .ok (.iload 7, 2) := by decide +kernel
theorem dL_isWell_69 : decode cL_isWell 69 = .ok (.bipush 7, 2) := by decide +kernel
theorem dL_isWell_71 : decode cL_isWell 71 = .ok (.invokevirtual 36, 3) := by decide +kernel
theorem dL_isWell_74 : decode cL_isWell 74 = .ok (.iadd, 1) := by decide +kernel
theorem dL_isWell_75 : decode cL_isWell 75 = .ok (.istore_n 2, 1) := by decide +kernel
theorem dL_isWell_76 : decode cL_isWell 76 = .ok (.iload_n 3, 1) := by decide +kernel
theorem dL_isWell_77 : decode cL_isWell 77 = .ok (.aload_n 0, 1) := by decide +kernel
theorem dL_isWell_78 : decode cL_isWell 78 = .ok (.iload 7, 2) := by decide +kernel
theorem dL_isWell_80 : decode cL_isWell 80 = .ok (.iconst 0, 1) := by decide +kernel
theorem dL_isWell_81 : decode cL_isWell 81 = .ok (.invokevirtual 36, 3) := by decide +kernel
theorem dL_isWell_84 : decode cL_isWell 84 = .ok (.ifCond .ne 7, 3) := by decide +kernel
theorem dL_isWell_87 : decode cL_isWell 87 = .ok (.iconst 1, 1) := by decide +kernel
theorem dL_isWell_88 : decode cL_isWell 88 = .ok (.goto 4, 3) := by decide +kernel
theorem dL_isWell_91 : decode cL_isWell 91 = .ok (.iconst 0, 1) := by decide +kernel
theorem dL_isWell_92 : decode cL_isWell 92 = .ok (.iadd, 1) := by decide +kernel
theorem dL_isWell_93 : decode cL_isWell 93 = .ok (.istore_n 3, 1) := by decide +kernel
theorem dL_isWell_94 : decode cL_isWell 94 = .ok (.aload_n 0, 1) := by decide +kernel
theorem dL_isWell_95 : decode cL_isWell 95 = .ok (.iload 7, 2) := by decide +kernel
theorem dL_isWell_97 : decode cL_isWell 97 = .ok (.bipush 8, 2) := by decide +kernel
theorem dL_isWell_99 : decode cL_isWell 99 = .ok (.invokevirtual 36, 3) := by decide +kernel
theorem dL_isWell_102 : decode cL_isWell 102 = .ok (.iload 4, 2) := by decide +kernel
theorem dL_isWell_104 : decode cL_isWell 104 = .ok (.if_icmp .le 14, 3) := by decide +kernel
theorem dL_isWell_107 : decode cL_isWell 107 = .ok (.aload_n 0, 1) := by decide +kernel
theorem dL_isWell_108 : decode cL_isWell 108 = .ok (.iload 7, 2) := by decide +kernel
theorem dL_isWell_110 : decode cL_isWell 110 = .ok (.bipush 8, 2) := by decide +kernel
theorem dL_isWell_112 : decode cL_isWell 112 = .ok (.invokevirtual 36, 3) := by decide +kernel
theorem dL_isWell_115 : decode cL_isWell 115 = .ok (.goto 5, 3) := by decide +kernel
theorem dL_isWell_118 : decode cL_isWell 118 = .ok (.iload 4, 2) := by decide +kernel
theorem dL_isWell_120 : decode cL_isWell 120 = .ok (.istore 4, 2) := by decide +kernel
theorem dL_isWell_122 : decode cL_isWell 122 = .ok (.aload_n 0, 1) := by decide +kernel
theorem dL_isWell_123 : decode cL_isWell 123 = .ok (.iload 7, 2) := by decide +kernel
theorem dL_isWell_125 : decode cL_isWell 125 = .ok (.bipush 7, 2) := by decide +kernel
theorem dL_isWell_127 : decode cL_isWell 127 = .ok (.invokevirtual 36, 3) := by decide +kernel
theorem dL_isWell_130 : decode cL_isWell 130 = .ok (.aload_n 0, 1) := by decide +kernel
theorem dL_isWell_131 : decode cL_isWell 131 = .ok (.iload 5, 2) := by decide +kernel
theorem dL_isWell_133 : decode cL_isWell 133 = .ok (.bipush 7, 2) := by decide +kernel
theorem dL_isWell_135 : decode cL_isWell 135 = .ok (.invokevirtual 36, 3) := by decide +kernel
theorem dL_isWell_138 : decode cL_isWell 138 = .ok (.if_icmp .lt 29, 3) := by decide +kernel
theorem dL_isWell_141 : decode cL_isWell 141 = .ok (.aload_n 0, 1) := by decide +kernel
theorem dL_isWell_142 : decode cL_isWell 142 = .ok (.iload 7, 2) := by decide +kernel
theorem dL_isWell_144 : decode cL_isWell 144 = .ok (.bipush 7, 2) := by decide +kernel
theorem dL_isWell_146 : decode cL_isWell 146 = .ok (.invokevirtual 36, 3) := by decide +kernel
theorem dL_isWell_149 : decode cL_isWell 149 = .ok (.aload_n 0, 1) := by decide +kernel
theorem dL_isWell_150 : decode cL_isWell 150 = .ok (.iload 5, 2) := by decide +kernel
theorem dL_isWell_152 : decode cL_isWell 152 = .ok (.bipush 7, 2) := by decide +kernel
theorem dL_isWell_154 : decode cL_isWell 154 = .ok (.invokevirtual 36, 3) := by decide +kernel
theorem dL_isWell_157 : decode cL_isWell 157 = .ok (.if_icmp .ne 14, 3) := by decide +kernel
theorem dL_isWell_160 : decode cL_isWell 160 = .ok (.iload 7, 2) := by decide +kernel
theorem dL_isWell_162 : decode cL_isWell 162 = .ok (.iload 5, 2) := by decide +kernel
theorem dL_isWell_164 : decode cL_isWell 164 = .ok (.if_icmp .lt 7, 3) := by decide +kernel
theorem dL_isWell_167 : decode cL_isWell 167 = .ok (.iconst 1, 1) := by decide +kernel
theorem dL_isWell_168 : decode cL_isWell 168 = .ok (.goto 4, 3) := by decide +kernel
theorem dL_isWell_171 : decode cL_isWell 171 = .ok (.iconst 0, 1) := by decide +kernel
theorem dL_isWell_172 : decode cL_isWell 172 = .ok (.istore 6, 2) := by decide +kernel
theorem dL_isWell_174 : decode cL_isWell 174 = .ok (.iinc 7 1, 3) := by decide +kernel
theorem dL_isWell_177 : decode cL_isWell 177 = .ok (.goto (-123), 3) := by decide +kernel
theorem dL_isWell_180 : decode cL_isWell 180 = .ok (.iload 6, 2) := by decide +kernel
theorem dL_isWell_182 : decode cL_isWell 182 = .ok (.ifCond .eq 46, 3) := by decide +kernel
theorem dL_isWell_185 : decode cL_isWell 185 = .ok (.iload_n 2, 1) := by decide +kernel
theorem dL_isWell_186 : decode cL_isWell 186 = .ok (.aload_n 0, 1) := by decide +kernel
theorem dL_isWell_187 : decode cL_isWell 187 = .ok (.iconst 3, 1) := by decide +kernel
theorem dL_isWell_188 : decode cL_isWell 188 = .ok (.invokevirtual 9, 3) := by decide +kernel
theorem dL_isWell_191 : decode cL_isWell 191 = .ok (.if_icmp .ne 37, 3) := by decide +kernel
theorem dL_isWell_194 : decode cL_isWell 194 = .ok (.iload_n 3, 1) := by decide +kernel
theorem dL_isWell_195 : decode cL_isWell 195 = .ok (.aload_n 0, 1) := by decide +kernel
theorem dL_isWell_196 : decode cL_isWell 196 = .ok (.iconst 2, 1) := by decide +kernel
theorem dL_isWell_197 : decode cL_isWell 197 = .ok (.invokevirtual 9, 3) := by decide +kernel
theorem dL_isWell_200 : decode cL_isWell 200 = .ok (.if_icmp .ne 28, 3) := by decide +kernel
theorem dL_isWell_203 : decode cL_isWell 203 = .ok (.iload 4, 2) := by decide +kernel
theorem dL_isWell_205 : decode cL_isWell 205 = .ok (.aload_n 0, 1) := by decide +kernel
theorem dL_isWell_206 : decode cL_isWell 206 = .ok (.iconst 5, 1) := by decide +kernel
theorem dL_isWell_207 : decode cL_isWell 207 = .ok (.invokevirtual 9, 3) := by decide +kernel
theorem dL_isWell_210 : decode cL_isWell 210 = .ok (.if_icmp .ne 18, 3) := by decide +kernel
theorem dL_isWell_213 : decode cL_isWell 213 = .ok (.aload_n 0, 1) := by decide +kernel
theorem dL_isWell_214 : decode cL_isWell 214 = .ok (.iload_n 1, 1) := by decide +kernel
theorem dL_isWell_215 : decode cL_isWell 215 = .ok (.iconst 0, 1) := by decide +kernel
theorem dL_isWell_216 : decode cL_isWell 216 = .ok (.invokevirtual 36, 3) := by decide +kernel
theorem dL_isWell_219 : decode cL_isWell 219 = .ok (.ldc 35, 2) := by decide +kernel
theorem dL_isWell_221 : decode cL_isWell 221 = .ok (.if_icmp .ne 7, 3) := by decide +kernel
theorem dL_isWell_224 : decode cL_isWell 224 = .ok (.iconst 1, 1) := by decide +kernel
theorem dL_isWell_225 : decode cL_isWell 225 = .ok (.goto 4, 3) := by decide +kernel
theorem dL_isWell_228 : decode cL_isWell 228 = .ok (.iconst 0, 1) := by decide +kernel
theorem dL_isWell_229 : decode cL_isWell 229 = .ok (.ireturn, 1) := by decide +kernel
theorem dL_law_0 : decode cL_law 0 = .ok (.new 10, 3) := by decide +kernel
theorem dL_law_3 : decode cL_law 3 = .ok (.dup, 1) := by decide +kernel
theorem dL_law_4 : decode cL_law 4 = .ok (.invokespecial 79, 3) := by decide +kernel
theorem dL_law_7 : decode cL_law 7 = .ok (.astore_n 1, 1) := by decide +kernel
theorem dL_law_8 : decode cL_law 8 = .ok (.new 10, 3) := by decide +kernel
theorem dL_law_11 : decode cL_law 11 = .ok (.dup, 1) := by decide +kernel
theorem dL_law_12 : decode cL_law 12 = .ok (.invokespecial 79, 3) := by decide +kernel
theorem dL_law_15 : decode cL_law 15 = .ok (.astore_n 2, 1) := by decide +kernel
theorem dL_law_16 : decode cL_law 16 = .ok (.iconst 1, 1) := by decide +kernel
theorem dL_law_17 : decode cL_law 17 = .ok (.istore_n 3, 1) := by decide +kernel
theorem dL_law_18 : decode cL_law 18 = .ok (.iconst 0, 1) := by decide +kernel
theorem dL_law_19 : decode cL_law 19 = .ok (.istore 4, 2) := by decide +kernel
theorem dL_law_21 : decode cL_law 21 = .ok (.iload 4, 2) := by decide +kernel
theorem dL_law_23 : decode cL_law 23 = .ok (.bipush 40, 2) := by decide +kernel
theorem dL_law_25 : decode cL_law 25 = .ok (.if_icmp .ge 58, 3) := by decide +kernel
theorem dL_law_28 : decode cL_law 28 = .ok (.iload_n 3, 1) := by decide +kernel
theorem dL_law_29 : decode cL_law 29 = .ok (.ifCond .eq 54, 3) := by decide +kernel
theorem dL_law_32 : decode cL_law 32 = .ok (.aload_n 1, 1) := by decide +kernel
theorem dL_law_33 : decode cL_law 33 = .ok (.aload_n 2, 1) := by decide +kernel
theorem dL_law_34 : decode cL_law 34 = .ok (.aload_n 0, 1) := by decide +kernel
theorem dL_law_35 : decode cL_law 35 = .ok (.iload 4, 2) := by decide +kernel
theorem dL_law_37 : decode cL_law 37 = .ok (.invokestatic 80, 3) := by decide +kernel
theorem dL_law_40 : decode cL_law 40 = .ok (.aload_n 0, 1) := by decide +kernel
theorem dL_law_41 : decode cL_law 41 = .ok (.iload 4, 2) := by decide +kernel
theorem dL_law_43 : decode cL_law 43 = .ok (.iconst 1, 1) := by decide +kernel
theorem dL_law_44 : decode cL_law 44 = .ok (.iadd, 1) := by decide +kernel
theorem dL_law_45 : decode cL_law 45 = .ok (.invokestatic 80, 3) := by decide +kernel
theorem dL_law_48 : decode cL_law 48 = .ok (.iconst 2, 1) := by decide +kernel
theorem dL_law_49 : decode cL_law 49 = .ok (.ishr, 1) := by decide +kernel
theorem dL_law_50 : decode cL_law 50 = .ok (.invokestatic 84, 3) := by decide +kernel
theorem dL_law_53 : decode cL_law 53 = .ok (.ifCond .eq 22, 3) := by decide +kernel
theorem dL_law_56 : decode cL_law 56 = .ok (.iload 4, 2) := by decide +kernel
theorem dL_law_58 : decode cL_law 58 = .ok (.bipush 8, 2) := by decide +kernel
theorem dL_law_60 : decode cL_law 60 = .ok (.irem, 1) := by decide +kernel
theorem dL_law_61 : decode cL_law 61 = .ok (.ifCond .gt 10, 3) := by decide +kernel
theorem dL_law_64 : decode cL_law 64 = .ok (.aload_n 1, 1) := by decide +kernel
theorem dL_law_65 : decode cL_law 65 = .ok (.invokestatic 88, 3) := by decide +kernel
theorem dL_law_68 : decode cL_law 68 = .ok (.ifCond .eq 7, 3) := by decide +kernel
theorem dL_law_71 : decode cL_law 71 = .ok (.iconst 1, 1) := by decide +kernel
theorem dL_law_72 : decode cL_law 72 = .ok (.goto 4, 3) := by decide +kernel
theorem dL_law_75 : decode cL_law 75 = .ok (.iconst 0, 1) := by decide +kernel
theorem dL_law_76 : decode cL_law 76 = .ok (.istore_n 3, 1) := by decide +kernel
theorem dL_law_77 : decode cL_law 77 = .ok (.iinc 4 1, 3) := by decide +kernel
theorem dL_law_80 : decode cL_law 80 = .ok (.goto (-59), 3) := by decide +kernel
theorem dL_law_83 : decode cL_law 83 = .ok (.iload_n 3, 1) := by decide +kernel
theorem dL_law_84 : decode cL_law 84 = .ok (.ifCond .eq 29, 3) := by decide +kernel
theorem dL_law_87 : decode cL_law 87 = .ok (.aload_n 1, 1) := by decide +kernel
theorem dL_law_88 : decode cL_law 88 = .ok (.invokestatic 88, 3) := by decide +kernel
theorem dL_law_91 : decode cL_law 91 = .ok (.ifCond .eq 22, 3) := by decide +kernel
theorem dL_law_94 : decode cL_law 94 = .ok (.aload_n 2, 1) := by decide +kernel
theorem dL_law_95 : decode cL_law 95 = .ok (.iconst 0, 1) := by decide +kernel
theorem dL_law_96 : decode cL_law 96 = .ok (.invokevirtual 9, 3) := by decide +kernel
theorem dL_law_99 : decode cL_law 99 = .ok (.iconst 2, 1) := by decide +kernel
theorem dL_law_100 : decode cL_law 100 = .ok (.aload_n 1, 1) := by decide +kernel
theorem dL_law_101 : decode cL_law 101 = .ok (.iconst 0, 1) := by decide +kernel
theorem dL_law_102 : decode cL_law 102 = .ok (.invokevirtual 9, 3) := by decide +kernel
theorem dL_law_105 : decode cL_law 105 = .ok (.imul, 1) := by decide +kernel
theorem dL_law_106 : decode cL_law 106 = .ok (.if_icmp .ne 7, 3) := by decide +kernel
theorem dL_law_109 : decode cL_law 109 = .ok (.iconst 1, 1) := by decide +kernel
theorem dL_law_110 : decode cL_law 110 = .ok (.goto 4, 3) := by decide +kernel
theorem dL_law_113 : decode cL_law 113 = .ok (.iconst 0, 1) := by decide +kernel
theorem dL_law_114 : decode cL_law 114 = .ok (.istore_n 3, 1) := by decide +kernel
theorem dL_law_115 : decode cL_law 115 = .ok (.iconst 0, 1) := by decide +kernel
theorem dL_law_116 : decode cL_law 116 = .ok (.istore 4, 2) := by decide +kernel
theorem dL_law_118 : decode cL_law 118 = .ok (.iload 4, 2) := by decide +kernel
theorem dL_law_120 : decode cL_law 120 = .ok (.aload_n 1, 1) := by decide +kernel
theorem dL_law_121 : decode cL_law 121 = .ok (.iconst 0, 1) := by decide +kernel
theorem dL_law_122 : decode cL_law 122 = .ok (.invokevirtual 9, 3) := by decide +kernel
theorem dL_law_125 : decode cL_law 125 = .ok (.if_icmp .ge 21, 3) := by decide +kernel
theorem dL_law_128 : decode cL_law 128 = .ok (.iload_n 3, 1) := by decide +kernel
theorem dL_law_129 : decode cL_law 129 = .ok (.ifCond .eq 17, 3) := by decide +kernel
theorem dL_law_132 : decode cL_law 132 = .ok (.aload_n 1, 1) := by decide +kernel
theorem dL_law_133 : decode cL_law 133 = .ok (.aload_n 2, 1) := by decide +kernel
theorem dL_law_134 : decode cL_law 134 = .ok (.iload 4, 2) := by decide +kernel
theorem dL_law_136 : decode cL_law 136 = .ok (.invokestatic 59, 3) := by decide +kernel
theorem dL_law_139 : decode cL_law 139 = .ok (.istore_n 3, 1) := by decide +kernel
theorem dL_law_140 : decode cL_law 140 = .ok (.iinc 4 1, 3) := by decide +kernel
theorem dL_law_143 : decode cL_law 143 = .ok (.goto (-25), 3) := by decide +kernel
theorem dL_law_146 : decode cL_law 146 = .ok (.iload_n 3, 1) := by decide +kernel
theorem dL_law_147 : decode cL_law 147 = .ok (.ireturn, 1) := by decide +kernel
end
section
theorem dL_isStep_0 : decode cL_isStep 0 = .ok (.aload_n 0, 1) := by decide +kernel
theorem dL_isStep_1 : decode cL_isStep 1 = .ok (.iconst 0, 1) := by decide +kernel
theorem dL_isStep_2 : decode cL_isStep 2 = .ok (.invokevirtual 9, 3) := by decide +kernel
theorem dL_isStep_5 : decode cL_isStep 5 = .ok (.istore 4, 2) := by decide +kernel
theorem dL_isStep_7 : decode cL_isStep 7 = .ok (.iload_n 2, 1) := by decide +kernel
theorem dL_isStep_8 : decode cL_isStep 8 = .ok (.iconst 4, 1) := by decide +kernel
theorem dL_isStep_9 : decode cL_isStep 9 = .ok (.ishr, 1) := by decide +kernel
theorem dL_isStep_10 : decode cL_isStep 10 = .ok (.istore 5, 2) := by decide +kernel
theorem dL_isStep_12 : decode cL_isStep 12 = .ok (.iload_n 3, 1) := by decide +kernel
theorem dL_isStep_13 : decode cL_isStep 13 = .ok (.iload 4, 2) := by decide +kernel
theorem dL_isStep_15 : decode cL_isStep 15 = .ok (.iconst 1, 1) := by decide +kernel
theorem dL_isStep_16 : decode cL_isStep 16 = .ok (.iadd, 1) := by decide +kernel
theorem dL_isStep_17 : decode cL_isStep 17 = .ok (.invokestatic 15, 3) := by decide +kernel
theorem dL_isStep_20 : decode cL_isStep 20 = .ok (.istore 6, 2) := by decide +kernel
theorem dL_isStep_22 : decode cL_isStep 22 = .ok (.iload_n 3, 1) := by decide +kernel
theorem dL_isStep_23 : decode cL_isStep 23 = .ok (.iconst 3, 1) := by decide +kernel
theorem dL_isStep_24 : decode cL_isStep 24 = .ok (.ishr, 1) := by decide +kernel
theorem dL_isStep_25 : decode cL_isStep 25 = .ok (.iload 4, 2) := by decide +kernel
theorem dL_isStep_27 : decode cL_isStep 27 = .ok (.iconst 1, 1) := by decide +kernel
theorem dL_isStep_28 : decode cL_isStep 28 = .ok (.iadd, 1) := by decide +kernel
theorem dL_isStep_29 : decode cL_isStep 29 = .ok (.invokestatic 15, 3) := by decide +kernel
theorem dL_isStep_32 : decode cL_isStep 32 = .ok (.istore 7, 2) := by decide +kernel
theorem dL_isStep_34 : decode cL_isStep 34 = .ok (.iload_n 3, 1) := by decide +kernel
theorem dL_isStep_35 : decode cL_isStep 35 = .ok (.bipush 6, 2) := by decide +kernel
theorem dL_isStep_37 : decode cL_isStep 37 = .ok (.ishr, 1) := by decide +kernel
theorem dL_isStep_38 : decode cL_isStep 38 = .ok (.iload 4, 2) := by decide +kernel
theorem dL_isStep_40 : decode cL_isStep 40 = .ok (.iconst 1, 1) := by decide +kernel
theorem dL_isStep_41 : decode cL_isStep 41 = .ok (.iadd, 1) := by decide +kernel
theorem dL_isStep_42 : decode cL_isStep 42 = .ok (.invokestatic 15, 3) := by decide +kernel
theorem dL_isStep_45 : decode cL_isStep 45 = .ok (.istore 8, 2) := by decide +kernel
theorem dL_isStep_47 : decode cL_isStep 47 = .ok (.iload_n 2, 1) := by decide +kernel
theorem dL_isStep_48 : decode cL_isStep 48 = .ok (.bipush 12, 2) := by decide +kernel
theorem dL_isStep_50 : decode cL_isStep 50 = .ok (.invokestatic 15, 3) := by decide +kernel
theorem dL_isStep_53 : decode cL_isStep 53 = .ok (.istore 9, 2) := by decide +kernel
theorem dL_isStep_55 : decode cL_isStep 55 = .ok (.iload 9, 2) := by decide +kernel
theorem dL_isStep_57 : decode cL_isStep 57 = .ok (.bipush 8, 2) := by decide +kernel
theorem dL_isStep_59 : decode cL_isStep 59 = .ok (.if_icmp .ge 43, 3) := by decide +kernel
theorem dL_isStep_62 : decode cL_isStep 62 = .ok (.iload 4, 2) := by decide +kernel
theorem dL_isStep_64 : decode cL_isStep 64 = .ok (.bipush 8, 2) := by decide +kernel
theorem dL_isStep_66 : decode cL_isStep 66 = .ok (.if_icmp .ne 36, 3) := by decide +kernel
theorem dL_isStep_69 : decode cL_isStep 69 = .ok (.aload_n 0, 1) := by decide +kernel
theorem dL_isStep_70 : decode cL_isStep 70 = .ok (.invokevirtual 21, 3) := by decide +kernel
theorem dL_isStep_73 : decode cL_isStep 73 = .ok (.bipush 7, 2) := by decide +kernel
theorem dL_isStep_75 : decode cL_isStep 75 = .ok (.if_icmp .ne 25, 3) := by decide +kernel
theorem dL_isStep_78 : decode cL_isStep 78 = .ok (.aload_n 1, 1) := by decide +kernel
theorem dL_isStep_79 : decode cL_isStep 79 = .ok (.invokevirtual 21, 3) := by decide +kernel
theorem dL_isStep_82 : decode cL_isStep 82 = .ok (.bipush 15, 2) := by decide +kernel
theorem dL_isStep_84 : decode cL_isStep 84 = .ok (.if_icmp .ne 16, 3) := by decide +kernel
theorem dL_isStep_87 : decode cL_isStep 87 = .ok (.aload_n 1, 1) := by decide +kernel
theorem dL_isStep_88 : decode cL_isStep 88 = .ok (.invokevirtual 21, 3) := by decide +kernel
theorem dL_isStep_91 : decode cL_isStep 91 = .ok (.bipush 14, 2) := by decide +kernel
theorem dL_isStep_93 : decode cL_isStep 93 = .ok (.if_icmp .ne 7, 3) := by decide +kernel
theorem dL_isStep_96 : decode cL_isStep 96 = .ok (.iconst 1, 1) := by decide +kernel
theorem dL_isStep_97 : decode cL_isStep 97 = .ok (.goto 4, 3) := by decide +kernel
theorem dL_isStep_100 : decode cL_isStep 100 = .ok (.iconst 0, 1) := by decide +kernel
theorem dL_isStep_101 : decode cL_isStep 101 = .ok (.ireturn, 1) := by decide +kernel
theorem dL_isStep_102 : decode cL_isStep 102 = .ok (.iload 9, 2) := by decide +kernel
theorem dL_isStep_104 : decode cL_isStep 104 = .ok (.tableswitch 912 0 10 #[60, 60, 60, 132, 132, 427, 534, 609, 700, 817, 874], 60) := by decide +kernel
theorem dL_isStep_164 : decode cL_isStep 164 = .ok (.iload 5, 2) := by decide +kernel
theorem dL_isStep_166 : decode cL_isStep 166 = .ok (.sipush 257, 3) := by decide +kernel
theorem dL_isStep_169 : decode cL_isStep 169 = .ok (.invokestatic 15, 3) := by decide +kernel
theorem dL_isStep_172 : decode cL_isStep 172 = .ok (.istore 10, 2) := by decide +kernel
theorem dL_isStep_174 : decode cL_isStep 174 = .ok (.iconst 1, 1) := by decide +kernel
theorem dL_isStep_175 : decode cL_isStep 175 = .ok (.iload_n 3, 1) := by decide +kernel
theorem dL_isStep_176 : decode cL_isStep 176 = .ok (.sipush 255, 3) := by decide +kernel
theorem dL_isStep_179 : decode cL_isStep 179 = .ok (.invokestatic 15, 3) := by decide +kernel
theorem dL_isStep_182 : decode cL_isStep 182 = .ok (.iadd, 1) := by decide +kernel
theorem dL_isStep_183 : decode cL_isStep 183 = .ok (.istore 11, 2) := by decide +kernel
theorem dL_isStep_185 : decode cL_isStep 185 = .ok (.aload_n 0, 1) := by decide +kernel
theorem dL_isStep_186 : decode cL_isStep 186 = .ok (.iload 10, 2) := by decide +kernel
theorem dL_isStep_188 : decode cL_isStep 188 = .ok (.iload 11, 2) := by decide +kernel
theorem dL_isStep_190 : decode cL_isStep 190 = .ok (.invokevirtual 25, 3) := by decide +kernel
theorem dL_isStep_193 : decode cL_isStep 193 = .ok (.iload 4, 2) := by decide +kernel
theorem dL_isStep_195 : decode cL_isStep 195 = .ok (.if_icmp .ne 39, 3) := by decide +kernel
theorem dL_isStep_198 : decode cL_isStep 198 = .ok (.aload_n 1, 1) := by decide +kernel
theorem dL_isStep_199 : decode cL_isStep 199 = .ok (.iload 10, 2) := by decide +kernel
theorem dL_isStep_201 : decode cL_isStep 201 = .ok (.iload 11, 2) := by decide +kernel
theorem dL_isStep_203 : decode cL_isStep 203 = .ok (.invokevirtual 25, 3) := by decide +kernel
theorem dL_isStep_206 : decode cL_isStep 206 = .ok (.iconst 2, 1) := by decide +kernel
theorem dL_isStep_207 : decode cL_isStep 207 = .ok (.iload 4, 2) := by decide +kernel
theorem dL_isStep_209 : decode cL_isStep 209 = .ok (.imul, 1) := by decide +kernel
theorem dL_isStep_210 : decode cL_isStep 210 = .ok (.if_icmp .ne 24, 3) := by decide +kernel
theorem dL_isStep_213 : decode cL_isStep 213 = .ok (.aload_n 1, 1) := by decide +kernel
theorem dL_isStep_214 : decode cL_isStep 214 = .ok (.iconst 2, 1) := by decide +kernel
theorem dL_isStep_215 : decode cL_isStep 215 = .ok (.iload 4, 2) := by decide +kernel
theorem dL_isStep_217 : decode cL_isStep 217 = .ok (.imul, 1) := by decide +kernel
theorem dL_isStep_218 : decode cL_isStep 218 = .ok (.invokevirtual 28, 3) := by decide +kernel
theorem dL_isStep_221 : decode cL_isStep 221 = .ok (.iconst 2, 1) := by decide +kernel
theorem dL_isStep_222 : decode cL_isStep 222 = .ok (.iload 4, 2) := by decide +kernel
theorem dL_isStep_224 : decode cL_isStep 224 = .ok (.imul, 1) := by decide +kernel
theorem dL_isStep_225 : decode cL_isStep 225 = .ok (.iconst 1, 1) := by decide +kernel
theorem dL_isStep_226 : decode cL_isStep 226 = .ok (.iadd, 1) := by decide +kernel
theorem dL_isStep_227 : decode cL_isStep 227 = .ok (.if_icmp .ne 7, 3) := by decide +kernel
theorem dL_isStep_230 : decode cL_isStep 230 = .ok (.iconst 1, 1) := by decide +kernel
theorem dL_isStep_231 : decode cL_isStep 231 = .ok (.goto 4, 3) := by decide +kernel
theorem dL_isStep_234 : decode cL_isStep 234 = .ok (.iconst 0, 1) := by decide +kernel
theorem dL_isStep_235 : decode cL_isStep 235 = .ok (.ireturn, 1) := by decide +kernel
theorem dL_isStep_236 : decode cL_isStep 236 = .ok (.iconst 1, 1) := by decide +kernel
theorem dL_isStep_237 : decode cL_isStep 237 = .ok (.iload 5, 2) := by decide +kernel
theorem dL_isStep_239 : decode cL_isStep 239 = .ok (.iconst 3, 1) := by decide +kernel
theorem dL_isStep_240 : decode cL_isStep 240 = .ok (.invokestatic 15, 3) := by decide +kernel
theorem dL_isStep_243 : decode cL_isStep 243 = .ok (.iadd, 1) := by decide +kernel
theorem dL_isStep_244 : decode cL_isStep 244 = .ok (.istore 10, 2) := by decide +kernel
theorem dL_isStep_246 : decode cL_isStep 246 = .ok (.iload 6, 2) := by decide +kernel
theorem dL_isStep_248 : decode cL_isStep 248 = .ok (.iload 4, 2) := by decide +kernel
theorem dL_isStep_250 : decode cL_isStep 250 = .ok (.if_icmp .eq 10, 3) := by decide +kernel
theorem dL_isStep_253 : decode cL_isStep 253 = .ok (.iload 7, 2) := by decide +kernel
theorem dL_isStep_255 : decode cL_isStep 255 = .ok (.iload 4, 2) := by decide +kernel
theorem dL_isStep_257 : decode cL_isStep 257 = .ok (.if_icmp .ne 24, 3) := by decide +kernel
theorem dL_isStep_260 : decode cL_isStep 260 = .ok (.aload_n 0, 1) := by decide +kernel
theorem dL_isStep_261 : decode cL_isStep 261 = .ok (.iload 10, 2) := by decide +kernel
theorem dL_isStep_263 : decode cL_isStep 263 = .ok (.iload 6, 2) := by decide +kernel
theorem dL_isStep_265 : decode cL_isStep 265 = .ok (.iload 7, 2) := by decide +kernel
theorem dL_isStep_267 : decode cL_isStep 267 = .ok (.invokevirtual 31, 3) := by decide +kernel
theorem dL_isStep_270 : decode cL_isStep 270 = .ok (.ldc 35, 2) := by decide +kernel
theorem dL_isStep_272 : decode cL_isStep 272 = .ok (.if_icmp .ne 7, 3) := by decide +kernel
theorem dL_isStep_275 : decode cL_isStep 275 = .ok (.iconst 1, 1) := by decide +kernel
theorem dL_isStep_276 : decode cL_isStep 276 = .ok (.goto 4, 3) := by decide +kernel
theorem dL_isStep_279 : decode cL_isStep 279 = .ok (.iconst 0, 1) := by decide +kernel
theorem dL_isStep_280 : decode cL_isStep 280 = .ok (.ireturn, 1) := by decide +kernel
theorem dL_isStep_281 : decode cL_isStep 281 = .ok (.iload 10, 2) := by decide +kernel
theorem dL_isStep_283 : decode cL_isStep 283 = .ok (.iconst 3, 1) := by decide +kernel
theorem dL_isStep_284 : decode cL_isStep 284 = .ok (.if_icmp .ne 64, 3) := by decide +kernel
theorem dL_isStep_287 : decode cL_isStep 287 = .ok (.aload_n 0, 1) := by decide +kernel
theorem dL_isStep_288 : decode cL_isStep 288 = .ok (.iconst 3, 1) := by decide +kernel
theorem dL_isStep_289 : decode cL_isStep 289 = .ok (.iload 6, 2) := by decide +kernel
theorem dL_isStep_291 : decode cL_isStep 291 = .ok (.iload 7, 2) := by decide +kernel
theorem dL_isStep_293 : decode cL_isStep 293 = .ok (.invokevirtual 31, 3) := by decide +kernel
theorem dL_isStep_296 : decode cL_isStep 296 = .ok (.iload 4, 2) := by decide +kernel
theorem dL_isStep_298 : decode cL_isStep 298 = .ok (.if_icmp .ne 48, 3) := by decide +kernel
theorem dL_isStep_301 : decode cL_isStep 301 = .ok (.aload_n 1, 1) := by decide +kernel
theorem dL_isStep_302 : decode cL_isStep 302 = .ok (.iconst 3, 1) := by decide +kernel
theorem dL_isStep_303 : decode cL_isStep 303 = .ok (.iconst 2, 1) := by decide +kernel
theorem dL_isStep_304 : decode cL_isStep 304 = .ok (.iload 6, 2) := by decide +kernel
theorem dL_isStep_306 : decode cL_isStep 306 = .ok (.imul, 1) := by decide +kernel
theorem dL_isStep_307 : decode cL_isStep 307 = .ok (.iconst 1, 1) := by decide +kernel
theorem dL_isStep_308 : decode cL_isStep 308 = .ok (.iadd, 1) := by decide +kernel
theorem dL_isStep_309 : decode cL_isStep 309 = .ok (.iconst 2, 1) := by decide +kernel
theorem dL_isStep_310 : decode cL_isStep 310 = .ok (.iload 7, 2) := by decide +kernel
theorem dL_isStep_312 : decode cL_isStep 312 = .ok (.imul, 1) := by decide +kernel
theorem dL_isStep_313 : decode cL_isStep 313 = .ok (.iconst 1, 1) := by decide +kernel
theorem dL_isStep_314 : decode cL_isStep 314 = .ok (.iadd, 1) := by decide +kernel
theorem dL_isStep_315 : decode cL_isStep 315 = .ok (.invokevirtual 31, 3) := by decide +kernel
theorem dL_isStep_318 : decode cL_isStep 318 = .ok (.iconst 2, 1) := by decide +kernel
theorem dL_isStep_319 : decode cL_isStep 319 = .ok (.iload 4, 2) := by decide +kernel
theorem dL_isStep_321 : decode cL_isStep 321 = .ok (.imul, 1) := by decide +kernel
theorem dL_isStep_322 : decode cL_isStep 322 = .ok (.if_icmp .ne 24, 3) := by decide +kernel
theorem dL_isStep_325 : decode cL_isStep 325 = .ok (.aload_n 1, 1) := by decide +kernel
theorem dL_isStep_326 : decode cL_isStep 326 = .ok (.iconst 2, 1) := by decide +kernel
theorem dL_isStep_327 : decode cL_isStep 327 = .ok (.iload 4, 2) := by decide +kernel
theorem dL_isStep_329 : decode cL_isStep 329 = .ok (.imul, 1) := by decide +kernel
theorem dL_isStep_330 : decode cL_isStep 330 = .ok (.invokevirtual 28, 3) := by decide +kernel
theorem dL_isStep_333 : decode cL_isStep 333 = .ok (.iconst 2, 1) := by decide +kernel
theorem dL_isStep_334 : decode cL_isStep 334 = .ok (.iload 4, 2) := by decide +kernel
theorem dL_isStep_336 : decode cL_isStep 336 = .ok (.imul, 1) := by decide +kernel
theorem dL_isStep_337 : decode cL_isStep 337 = .ok (.iconst 1, 1) := by decide +kernel
theorem dL_isStep_338 : decode cL_isStep 338 = .ok (.iadd, 1) := by decide +kernel
theorem dL_isStep_339 : decode cL_isStep 339 = .ok (.if_icmp .ne 7, 3) := by decide +kernel
theorem dL_isStep_342 : decode cL_isStep 342 = .ok (.iconst 1, 1) := by decide +kernel
theorem dL_isStep_343 : decode cL_isStep 343 = .ok (.goto 4, 3) := by decide +kernel
theorem dL_isStep_346 : decode cL_isStep 346 = .ok (.iconst 0, 1) := by decide +kernel
theorem dL_isStep_347 : decode cL_isStep 347 = .ok (.ireturn, 1) := by decide +kernel
theorem dL_isStep_348 : decode cL_isStep 348 = .ok (.aload_n 0, 1) := by decide +kernel
theorem dL_isStep_349 : decode cL_isStep 349 = .ok (.iload 10, 2) := by decide +kernel
theorem dL_isStep_351 : decode cL_isStep 351 = .ok (.iload 6, 2) := by decide +kernel
theorem dL_isStep_353 : decode cL_isStep 353 = .ok (.iload 7, 2) := by decide +kernel
theorem dL_isStep_355 : decode cL_isStep 355 = .ok (.invokevirtual 31, 3) := by decide +kernel
theorem dL_isStep_358 : decode cL_isStep 358 = .ok (.iload 4, 2) := by decide +kernel
theorem dL_isStep_360 : decode cL_isStep 360 = .ok (.if_icmp .ne 95, 3) := by decide +kernel
theorem dL_isStep_363 : decode cL_isStep 363 = .ok (.aload_n 1, 1) := by decide +kernel
theorem dL_isStep_364 : decode cL_isStep 364 = .ok (.iconst 3, 1) := by decide +kernel
theorem dL_isStep_365 : decode cL_isStep 365 = .ok (.iload 10, 2) := by decide +kernel
theorem dL_isStep_367 : decode cL_isStep 367 = .ok (.isub, 1) := by decide +kernel
theorem dL_isStep_368 : decode cL_isStep 368 = .ok (.iconst 2, 1) := by decide +kernel
theorem dL_isStep_369 : decode cL_isStep 369 = .ok (.iload 6, 2) := by decide +kernel
theorem dL_isStep_371 : decode cL_isStep 371 = .ok (.imul, 1) := by decide +kernel
theorem dL_isStep_372 : decode cL_isStep 372 = .ok (.iconst 1, 1) := by decide +kernel
theorem dL_isStep_373 : decode cL_isStep 373 = .ok (.iadd, 1) := by decide +kernel
theorem dL_isStep_374 : decode cL_isStep 374 = .ok (.iconst 2, 1) := by decide +kernel
theorem dL_isStep_375 : decode cL_isStep 375 = .ok (.iload 7, 2) := by decide +kernel
theorem dL_isStep_377 : decode cL_isStep 377 = .ok (.imul, 1) := by decide +kernel
theorem dL_isStep_378 : decode cL_isStep 378 = .ok (.iconst 1, 1) := by decide +kernel
theorem dL_isStep_379 : decode cL_isStep 379 = .ok (.iadd, 1) := by decide +kernel
theorem dL_isStep_380 : decode cL_isStep 380 = .ok (.invokevirtual 31, 3) := by decide +kernel
theorem dL_isStep_383 : decode cL_isStep 383 = .ok (.iconst 2, 1) := by decide +kernel
theorem dL_isStep_384 : decode cL_isStep 384 = .ok (.iload 4, 2) := by decide +kernel
theorem dL_isStep_386 : decode cL_isStep 386 = .ok (.imul, 1) := by decide +kernel
theorem dL_isStep_387 : decode cL_isStep 387 = .ok (.if_icmp .ne 68, 3) := by decide +kernel
theorem dL_isStep_390 : decode cL_isStep 390 = .ok (.aload_n 1, 1) := by decide +kernel
theorem dL_isStep_391 : decode cL_isStep 391 = .ok (.iconst 2, 1) := by decide +kernel
theorem dL_isStep_392 : decode cL_isStep 392 = .ok (.iload 4, 2) := by decide +kernel
theorem dL_isStep_394 : decode cL_isStep 394 = .ok (.imul, 1) := by decide +kernel
theorem dL_isStep_395 : decode cL_isStep 395 = .ok (.invokevirtual 28, 3) := by decide +kernel
theorem dL_isStep_398 : decode cL_isStep 398 = .ok (.iconst 2, 1) := by decide +kernel
theorem dL_isStep_399 : decode cL_isStep 399 = .ok (.iload 4, 2) := by decide +kernel
theorem dL_isStep_401 : decode cL_isStep 401 = .ok (.imul, 1) := by decide +kernel
theorem dL_isStep_402 : decode cL_isStep 402 = .ok (.iconst 1, 1) := by decide +kernel
theorem dL_isStep_403 : decode cL_isStep 403 = .ok (.iadd, 1) := by decide +kernel
theorem dL_isStep_404 : decode cL_isStep 404 = .ok (.if_icmp .ne 51, 3) := by decide +kernel
theorem dL_isStep_407 : decode cL_isStep 407 = .ok (.aload_n 1, 1) := by decide +kernel
theorem dL_isStep_408 : decode cL_isStep 408 = .ok (.iconst 2, 1) := by decide +kernel
theorem dL_isStep_409 : decode cL_isStep 409 = .ok (.iload 4, 2) := by decide +kernel
theorem dL_isStep_411 : decode cL_isStep 411 = .ok (.imul, 1) := by decide +kernel
theorem dL_isStep_412 : decode cL_isStep 412 = .ok (.iconst 1, 1) := by decide +kernel
theorem dL_isStep_413 : decode cL_isStep 413 = .ok (.iadd, 1) := by decide +kernel
theorem dL_isStep_414 : decode cL_isStep 414 = .ok (.iconst 4, 1) := by decide +kernel
theorem dL_isStep_415 : decode cL_isStep 415 = .ok (.invokevirtual 36, 3) := by decide +kernel
theorem dL_isStep_418 : decode cL_isStep 418 = .ok (.aload_n 0, 1) := by decide +kernel
theorem dL_isStep_419 : decode cL_isStep 419 = .ok (.iload 4, 2) := by decide +kernel
theorem dL_isStep_421 : decode cL_isStep 421 = .ok (.iconst 4, 1) := by decide +kernel
theorem dL_isStep_422 : decode cL_isStep 422 = .ok (.invokevirtual 36, 3) := by decide +kernel
theorem dL_isStep_425 : decode cL_isStep 425 = .ok (.if_icmp .ne 30, 3) := by decide +kernel
theorem dL_isStep_428 : decode cL_isStep 428 = .ok (.aload_n 1, 1) := by decide +kernel
theorem dL_isStep_429 : decode cL_isStep 429 = .ok (.iconst 2, 1) := by decide +kernel
theorem dL_isStep_430 : decode cL_isStep 430 = .ok (.iload 4, 2) := by decide +kernel
theorem dL_isStep_432 : decode cL_isStep 432 = .ok (.imul, 1) := by decide +kernel
theorem dL_isStep_433 : decode cL_isStep 433 = .ok (.bipush 33, 2) := by decide +kernel
theorem dL_isStep_435 : decode cL_isStep 435 = .ok (.invokevirtual 39, 3) := by decide +kernel
theorem dL_isStep_438 : decode cL_isStep 438 = .ok (.iconst 1, 1) := by decide +kernel
theorem dL_isStep_439 : decode cL_isStep 439 = .ok (.aload_n 0, 1) := by decide +kernel
theorem dL_isStep_440 : decode cL_isStep 440 = .ok (.iload 4, 2) := by decide +kernel
theorem dL_isStep_442 : decode cL_isStep 442 = .ok (.bipush 33, 2) := by decide +kernel
theorem dL_isStep_444 : decode cL_isStep 444 = .ok (.invokevirtual 39, 3) := by decide +kernel
theorem dL_isStep_447 : decode cL_isStep 447 = .ok (.isub, 1) := by decide +kernel
theorem dL_isStep_448 : decode cL_isStep 448 = .ok (.if_icmp .ne 7, 3) := by decide +kernel
theorem dL_isStep_451 : decode cL_isStep 451 = .ok (.iconst 1, 1) := by decide +kernel
theorem dL_isStep_452 : decode cL_isStep 452 = .ok (.goto 4, 3) := by decide +kernel
theorem dL_isStep_455 : decode cL_isStep 455 = .ok (.iconst 0, 1) := by decide +kernel
theorem dL_isStep_456 : decode cL_isStep 456 = .ok (.istore 11, 2) := by decide +kernel
theorem dL_isStep_458 : decode cL_isStep 458 = .ok (.iload 11, 2) := by decide +kernel
theorem dL_isStep_460 : decode cL_isStep 460 = .ok (.ifCond .eq 69, 3) := by decide +kernel
theorem dL_isStep_463 : decode cL_isStep 463 = .ok (.aload_n 1, 1) := by decide +kernel
theorem dL_isStep_464 : decode cL_isStep 464 = .ok (.invokevirtual 21, 3) := by decide +kernel
theorem dL_isStep_467 : decode cL_isStep 467 = .ok (.iconst 2, 1) := by decide +kernel
theorem dL_isStep_468 : decode cL_isStep 468 = .ok (.iload 4, 2) := by decide +kernel
theorem dL_isStep_470 : decode cL_isStep 470 = .ok (.imul, 1) := by decide +kernel
theorem dL_isStep_471 : decode cL_isStep 471 = .ok (.iconst 1, 1) := by decide +kernel
theorem dL_isStep_472 : decode cL_isStep 472 = .ok (.iadd, 1) := by decide +kernel
theorem dL_isStep_473 : decode cL_isStep 473 = .ok (.if_icmp .ne 56, 3) := by decide +kernel
theorem dL_isStep_476 : decode cL_isStep 476 = .ok (.aload_n 1, 1) := by decide +kernel
theorem dL_isStep_477 : decode cL_isStep 477 = .ok (.invokevirtual 21, 3) := by decide +kernel
theorem dL_isStep_480 : decode cL_isStep 480 = .ok (.iconst 2, 1) := by decide +kernel
theorem dL_isStep_481 : decode cL_isStep 481 = .ok (.iload 4, 2) := by decide +kernel
theorem dL_isStep_483 : decode cL_isStep 483 = .ok (.imul, 1) := by decide +kernel
theorem dL_isStep_484 : decode cL_isStep 484 = .ok (.if_icmp .ne 45, 3) := by decide +kernel
theorem dL_isStep_487 : decode cL_isStep 487 = .ok (.aload_n 1, 1) := by decide +kernel
theorem dL_isStep_488 : decode cL_isStep 488 = .ok (.iload 10, 2) := by decide +kernel
theorem dL_isStep_490 : decode cL_isStep 490 = .ok (.iconst 2, 1) := by decide +kernel
theorem dL_isStep_491 : decode cL_isStep 491 = .ok (.iload 6, 2) := by decide +kernel
theorem dL_isStep_493 : decode cL_isStep 493 = .ok (.imul, 1) := by decide +kernel
theorem dL_isStep_494 : decode cL_isStep 494 = .ok (.iconst 2, 1) := by decide +kernel
theorem dL_isStep_495 : decode cL_isStep 495 = .ok (.iload 7, 2) := by decide +kernel
theorem dL_isStep_497 : decode cL_isStep 497 = .ok (.imul, 1) := by decide +kernel
theorem dL_isStep_498 : decode cL_isStep 498 = .ok (.invokevirtual 31, 3) := by decide +kernel
theorem dL_isStep_501 : decode cL_isStep 501 = .ok (.iconst 2, 1) := by decide +kernel
theorem dL_isStep_502 : decode cL_isStep 502 = .ok (.iload 4, 2) := by decide +kernel
theorem dL_isStep_504 : decode cL_isStep 504 = .ok (.imul, 1) := by decide +kernel
theorem dL_isStep_505 : decode cL_isStep 505 = .ok (.if_icmp .ne 24, 3) := by decide +kernel
theorem dL_isStep_508 : decode cL_isStep 508 = .ok (.aload_n 1, 1) := by decide +kernel
theorem dL_isStep_509 : decode cL_isStep 509 = .ok (.iconst 2, 1) := by decide +kernel
end
section
theorem dL_isStep_510 : decode cL_isStep 510 = .ok (.iload 4, 2) := by decide +kernel
theorem dL_isStep_512 : decode cL_isStep 512 = .ok (.imul, 1) := by decide +kernel
theorem dL_isStep_513 : decode cL_isStep 513 = .ok (.invokevirtual 28, 3) := by decide +kernel
theorem dL_isStep_516 : decode cL_isStep 516 = .ok (.iconst 2, 1) := by decide +kernel
theorem dL_isStep_517 : decode cL_isStep 517 = .ok (.iload 4, 2) := by decide +kernel
theorem dL_isStep_519 : decode cL_isStep 519 = .ok (.imul, 1) := by decide +kernel
theorem dL_isStep_520 : decode cL_isStep 520 = .ok (.iconst 1, 1) := by decide +kernel
theorem dL_isStep_521 : decode cL_isStep 521 = .ok (.iadd, 1) := by decide +kernel
theorem dL_isStep_522 : decode cL_isStep 522 = .ok (.if_icmp .ne 7, 3) := by decide +kernel
theorem dL_isStep_525 : decode cL_isStep 525 = .ok (.iconst 1, 1) := by decide +kernel
theorem dL_isStep_526 : decode cL_isStep 526 = .ok (.goto 4, 3) := by decide +kernel
theorem dL_isStep_529 : decode cL_isStep 529 = .ok (.iconst 0, 1) := by decide +kernel
theorem dL_isStep_530 : decode cL_isStep 530 = .ok (.ireturn, 1) := by decide +kernel
theorem dL_isStep_531 : decode cL_isStep 531 = .ok (.iload 6, 2) := by decide +kernel
theorem dL_isStep_533 : decode cL_isStep 533 = .ok (.iload 4, 2) := by decide +kernel
theorem dL_isStep_535 : decode cL_isStep 535 = .ok (.if_icmp .eq 17, 3) := by decide +kernel
theorem dL_isStep_538 : decode cL_isStep 538 = .ok (.iload 7, 2) := by decide +kernel
theorem dL_isStep_540 : decode cL_isStep 540 = .ok (.iload 4, 2) := by decide +kernel
theorem dL_isStep_542 : decode cL_isStep 542 = .ok (.if_icmp .eq 10, 3) := by decide +kernel
theorem dL_isStep_545 : decode cL_isStep 545 = .ok (.iload 8, 2) := by decide +kernel
theorem dL_isStep_547 : decode cL_isStep 547 = .ok (.iload 4, 2) := by decide +kernel
theorem dL_isStep_549 : decode cL_isStep 549 = .ok (.if_icmp .ne 26, 3) := by decide +kernel
theorem dL_isStep_552 : decode cL_isStep 552 = .ok (.aload_n 0, 1) := by decide +kernel
theorem dL_isStep_553 : decode cL_isStep 553 = .ok (.iload 6, 2) := by decide +kernel
theorem dL_isStep_555 : decode cL_isStep 555 = .ok (.iload 7, 2) := by decide +kernel
theorem dL_isStep_557 : decode cL_isStep 557 = .ok (.iload 8, 2) := by decide +kernel
theorem dL_isStep_559 : decode cL_isStep 559 = .ok (.invokevirtual 42, 3) := by decide +kernel
theorem dL_isStep_562 : decode cL_isStep 562 = .ok (.ldc 35, 2) := by decide +kernel
theorem dL_isStep_564 : decode cL_isStep 564 = .ok (.if_icmp .ne 7, 3) := by decide +kernel
theorem dL_isStep_567 : decode cL_isStep 567 = .ok (.iconst 1, 1) := by decide +kernel
theorem dL_isStep_568 : decode cL_isStep 568 = .ok (.goto 69, 3) := by decide +kernel
theorem dL_isStep_571 : decode cL_isStep 571 = .ok (.iconst 0, 1) := by decide +kernel
theorem dL_isStep_572 : decode cL_isStep 572 = .ok (.goto 65, 3) := by decide +kernel
theorem dL_isStep_575 : decode cL_isStep 575 = .ok (.aload_n 0, 1) := by decide +kernel
theorem dL_isStep_576 : decode cL_isStep 576 = .ok (.iload 6, 2) := by decide +kernel
theorem dL_isStep_578 : decode cL_isStep 578 = .ok (.iload 7, 2) := by decide +kernel
theorem dL_isStep_580 : decode cL_isStep 580 = .ok (.iload 8, 2) := by decide +kernel
theorem dL_isStep_582 : decode cL_isStep 582 = .ok (.invokevirtual 42, 3) := by decide +kernel
theorem dL_isStep_585 : decode cL_isStep 585 = .ok (.iload 4, 2) := by decide +kernel
theorem dL_isStep_587 : decode cL_isStep 587 = .ok (.if_icmp .ne 49, 3) := by decide +kernel
theorem dL_isStep_590 : decode cL_isStep 590 = .ok (.aload_n 1, 1) := by decide +kernel
theorem dL_isStep_591 : decode cL_isStep 591 = .ok (.iconst 2, 1) := by decide +kernel
theorem dL_isStep_592 : decode cL_isStep 592 = .ok (.iload 7, 2) := by decide +kernel
theorem dL_isStep_594 : decode cL_isStep 594 = .ok (.imul, 1) := by decide +kernel
theorem dL_isStep_595 : decode cL_isStep 595 = .ok (.iconst 2, 1) := by decide +kernel
theorem dL_isStep_596 : decode cL_isStep 596 = .ok (.iload 6, 2) := by decide +kernel
theorem dL_isStep_598 : decode cL_isStep 598 = .ok (.imul, 1) := by decide +kernel
theorem dL_isStep_599 : decode cL_isStep 599 = .ok (.iconst 2, 1) := by decide +kernel
theorem dL_isStep_600 : decode cL_isStep 600 = .ok (.iload 8, 2) := by decide +kernel
theorem dL_isStep_602 : decode cL_isStep 602 = .ok (.imul, 1) := by decide +kernel
theorem dL_isStep_603 : decode cL_isStep 603 = .ok (.iconst 1, 1) := by decide +kernel
theorem dL_isStep_604 : decode cL_isStep 604 = .ok (.iadd, 1) := by decide +kernel
theorem dL_isStep_605 : decode cL_isStep 605 = .ok (.invokevirtual 42, 3) := by decide +kernel
theorem dL_isStep_608 : decode cL_isStep 608 = .ok (.iconst 2, 1) := by decide +kernel
theorem dL_isStep_609 : decode cL_isStep 609 = .ok (.iload 4, 2) := by decide +kernel
theorem dL_isStep_611 : decode cL_isStep 611 = .ok (.imul, 1) := by decide +kernel
theorem dL_isStep_612 : decode cL_isStep 612 = .ok (.if_icmp .ne 24, 3) := by decide +kernel
theorem dL_isStep_615 : decode cL_isStep 615 = .ok (.aload_n 1, 1) := by decide +kernel
theorem dL_isStep_616 : decode cL_isStep 616 = .ok (.iconst 2, 1) := by decide +kernel
theorem dL_isStep_617 : decode cL_isStep 617 = .ok (.iload 4, 2) := by decide +kernel
theorem dL_isStep_619 : decode cL_isStep 619 = .ok (.imul, 1) := by decide +kernel
theorem dL_isStep_620 : decode cL_isStep 620 = .ok (.invokevirtual 28, 3) := by decide +kernel
theorem dL_isStep_623 : decode cL_isStep 623 = .ok (.iconst 2, 1) := by decide +kernel
theorem dL_isStep_624 : decode cL_isStep 624 = .ok (.iload 4, 2) := by decide +kernel
theorem dL_isStep_626 : decode cL_isStep 626 = .ok (.imul, 1) := by decide +kernel
theorem dL_isStep_627 : decode cL_isStep 627 = .ok (.iconst 1, 1) := by decide +kernel
theorem dL_isStep_628 : decode cL_isStep 628 = .ok (.iadd, 1) := by decide +kernel
theorem dL_isStep_629 : decode cL_isStep 629 = .ok (.if_icmp .ne 7, 3) := by decide +kernel
theorem dL_isStep_632 : decode cL_isStep 632 = .ok (.iconst 1, 1) := by decide +kernel
theorem dL_isStep_633 : decode cL_isStep 633 = .ok (.goto 4, 3) := by decide +kernel
theorem dL_isStep_636 : decode cL_isStep 636 = .ok (.iconst 0, 1) := by decide +kernel
theorem dL_isStep_637 : decode cL_isStep 637 = .ok (.ireturn, 1) := by decide +kernel
theorem dL_isStep_638 : decode cL_isStep 638 = .ok (.iload 6, 2) := by decide +kernel
theorem dL_isStep_640 : decode cL_isStep 640 = .ok (.iload 4, 2) := by decide +kernel
theorem dL_isStep_642 : decode cL_isStep 642 = .ok (.if_icmp .ne 22, 3) := by decide +kernel
theorem dL_isStep_645 : decode cL_isStep 645 = .ok (.aload_n 0, 1) := by decide +kernel
theorem dL_isStep_646 : decode cL_isStep 646 = .ok (.iload 6, 2) := by decide +kernel
theorem dL_isStep_648 : decode cL_isStep 648 = .ok (.invokevirtual 28, 3) := by decide +kernel
theorem dL_isStep_651 : decode cL_isStep 651 = .ok (.ldc 35, 2) := by decide +kernel
theorem dL_isStep_653 : decode cL_isStep 653 = .ok (.if_icmp .ne 7, 3) := by decide +kernel
theorem dL_isStep_656 : decode cL_isStep 656 = .ok (.iconst 1, 1) := by decide +kernel
theorem dL_isStep_657 : decode cL_isStep 657 = .ok (.goto 55, 3) := by decide +kernel
theorem dL_isStep_660 : decode cL_isStep 660 = .ok (.iconst 0, 1) := by decide +kernel
theorem dL_isStep_661 : decode cL_isStep 661 = .ok (.goto 51, 3) := by decide +kernel
theorem dL_isStep_664 : decode cL_isStep 664 = .ok (.aload_n 0, 1) := by decide +kernel
theorem dL_isStep_665 : decode cL_isStep 665 = .ok (.iload 6, 2) := by decide +kernel
theorem dL_isStep_667 : decode cL_isStep 667 = .ok (.invokevirtual 28, 3) := by decide +kernel
theorem dL_isStep_670 : decode cL_isStep 670 = .ok (.iload 4, 2) := by decide +kernel
theorem dL_isStep_672 : decode cL_isStep 672 = .ok (.if_icmp .ne 39, 3) := by decide +kernel
theorem dL_isStep_675 : decode cL_isStep 675 = .ok (.aload_n 1, 1) := by decide +kernel
theorem dL_isStep_676 : decode cL_isStep 676 = .ok (.iconst 2, 1) := by decide +kernel
theorem dL_isStep_677 : decode cL_isStep 677 = .ok (.iload 6, 2) := by decide +kernel
theorem dL_isStep_679 : decode cL_isStep 679 = .ok (.imul, 1) := by decide +kernel
theorem dL_isStep_680 : decode cL_isStep 680 = .ok (.invokevirtual 28, 3) := by decide +kernel
theorem dL_isStep_683 : decode cL_isStep 683 = .ok (.iconst 2, 1) := by decide +kernel
theorem dL_isStep_684 : decode cL_isStep 684 = .ok (.iload 4, 2) := by decide +kernel
theorem dL_isStep_686 : decode cL_isStep 686 = .ok (.imul, 1) := by decide +kernel
theorem dL_isStep_687 : decode cL_isStep 687 = .ok (.if_icmp .ne 24, 3) := by decide +kernel
theorem dL_isStep_690 : decode cL_isStep 690 = .ok (.aload_n 1, 1) := by decide +kernel
theorem dL_isStep_691 : decode cL_isStep 691 = .ok (.iconst 2, 1) := by decide +kernel
theorem dL_isStep_692 : decode cL_isStep 692 = .ok (.iload 4, 2) := by decide +kernel
theorem dL_isStep_694 : decode cL_isStep 694 = .ok (.imul, 1) := by decide +kernel
theorem dL_isStep_695 : decode cL_isStep 695 = .ok (.invokevirtual 28, 3) := by decide +kernel
theorem dL_isStep_698 : decode cL_isStep 698 = .ok (.iconst 2, 1) := by decide +kernel
theorem dL_isStep_699 : decode cL_isStep 699 = .ok (.iload 4, 2) := by decide +kernel
theorem dL_isStep_701 : decode cL_isStep 701 = .ok (.imul, 1) := by decide +kernel
theorem dL_isStep_702 : decode cL_isStep 702 = .ok (.iconst 1, 1) := by decide +kernel
theorem dL_isStep_703 : decode cL_isStep 703 = .ok (.iadd, 1) := by decide +kernel
theorem dL_isStep_704 : decode cL_isStep 704 = .ok (.if_icmp .ne 7, 3) := by decide +kernel
theorem dL_isStep_707 : decode cL_isStep 707 = .ok (.iconst 1, 1) := by decide +kernel
theorem dL_isStep_708 : decode cL_isStep 708 = .ok (.goto 4, 3) := by decide +kernel
theorem dL_isStep_711 : decode cL_isStep 711 = .ok (.iconst 0, 1) := by decide +kernel
theorem dL_isStep_712 : decode cL_isStep 712 = .ok (.ireturn, 1) := by decide +kernel
theorem dL_isStep_713 : decode cL_isStep 713 = .ok (.iconst 1, 1) := by decide +kernel
theorem dL_isStep_714 : decode cL_isStep 714 = .ok (.iload 5, 2) := by decide +kernel
theorem dL_isStep_716 : decode cL_isStep 716 = .ok (.bipush 60, 2) := by decide +kernel
theorem dL_isStep_718 : decode cL_isStep 718 = .ok (.invokestatic 15, 3) := by decide +kernel
theorem dL_isStep_721 : decode cL_isStep 721 = .ok (.iadd, 1) := by decide +kernel
theorem dL_isStep_722 : decode cL_isStep 722 = .ok (.istore 10, 2) := by decide +kernel
theorem dL_isStep_724 : decode cL_isStep 724 = .ok (.iload 6, 2) := by decide +kernel
theorem dL_isStep_726 : decode cL_isStep 726 = .ok (.iload 4, 2) := by decide +kernel
theorem dL_isStep_728 : decode cL_isStep 728 = .ok (.if_icmp .ne 23, 3) := by decide +kernel
theorem dL_isStep_731 : decode cL_isStep 731 = .ok (.aload_n 0, 1) := by decide +kernel
theorem dL_isStep_732 : decode cL_isStep 732 = .ok (.iload 6, 2) := by decide +kernel
theorem dL_isStep_734 : decode cL_isStep 734 = .ok (.iconst 1, 1) := by decide +kernel
theorem dL_isStep_735 : decode cL_isStep 735 = .ok (.invokevirtual 45, 3) := by decide +kernel
theorem dL_isStep_738 : decode cL_isStep 738 = .ok (.ldc 35, 2) := by decide +kernel
theorem dL_isStep_740 : decode cL_isStep 740 = .ok (.if_icmp .ne 7, 3) := by decide +kernel
theorem dL_isStep_743 : decode cL_isStep 743 = .ok (.iconst 1, 1) := by decide +kernel
theorem dL_isStep_744 : decode cL_isStep 744 = .ok (.goto 59, 3) := by decide +kernel
theorem dL_isStep_747 : decode cL_isStep 747 = .ok (.iconst 0, 1) := by decide +kernel
theorem dL_isStep_748 : decode cL_isStep 748 = .ok (.goto 55, 3) := by decide +kernel
theorem dL_isStep_751 : decode cL_isStep 751 = .ok (.aload_n 0, 1) := by decide +kernel
theorem dL_isStep_752 : decode cL_isStep 752 = .ok (.iload 6, 2) := by decide +kernel
theorem dL_isStep_754 : decode cL_isStep 754 = .ok (.iload 10, 2) := by decide +kernel
theorem dL_isStep_756 : decode cL_isStep 756 = .ok (.invokevirtual 45, 3) := by decide +kernel
theorem dL_isStep_759 : decode cL_isStep 759 = .ok (.iload 4, 2) := by decide +kernel
theorem dL_isStep_761 : decode cL_isStep 761 = .ok (.if_icmp .ne 41, 3) := by decide +kernel
theorem dL_isStep_764 : decode cL_isStep 764 = .ok (.aload_n 1, 1) := by decide +kernel
theorem dL_isStep_765 : decode cL_isStep 765 = .ok (.iconst 2, 1) := by decide +kernel
theorem dL_isStep_766 : decode cL_isStep 766 = .ok (.iload 6, 2) := by decide +kernel
theorem dL_isStep_768 : decode cL_isStep 768 = .ok (.imul, 1) := by decide +kernel
theorem dL_isStep_769 : decode cL_isStep 769 = .ok (.iload 10, 2) := by decide +kernel
theorem dL_isStep_771 : decode cL_isStep 771 = .ok (.invokevirtual 45, 3) := by decide +kernel
theorem dL_isStep_774 : decode cL_isStep 774 = .ok (.iconst 2, 1) := by decide +kernel
theorem dL_isStep_775 : decode cL_isStep 775 = .ok (.iload 4, 2) := by decide +kernel
theorem dL_isStep_777 : decode cL_isStep 777 = .ok (.imul, 1) := by decide +kernel
theorem dL_isStep_778 : decode cL_isStep 778 = .ok (.if_icmp .ne 24, 3) := by decide +kernel
theorem dL_isStep_781 : decode cL_isStep 781 = .ok (.aload_n 1, 1) := by decide +kernel
theorem dL_isStep_782 : decode cL_isStep 782 = .ok (.iconst 2, 1) := by decide +kernel
theorem dL_isStep_783 : decode cL_isStep 783 = .ok (.iload 4, 2) := by decide +kernel
theorem dL_isStep_785 : decode cL_isStep 785 = .ok (.imul, 1) := by decide +kernel
theorem dL_isStep_786 : decode cL_isStep 786 = .ok (.invokevirtual 28, 3) := by decide +kernel
theorem dL_isStep_789 : decode cL_isStep 789 = .ok (.iconst 2, 1) := by decide +kernel
theorem dL_isStep_790 : decode cL_isStep 790 = .ok (.iload 4, 2) := by decide +kernel
theorem dL_isStep_792 : decode cL_isStep 792 = .ok (.imul, 1) := by decide +kernel
theorem dL_isStep_793 : decode cL_isStep 793 = .ok (.iconst 1, 1) := by decide +kernel
theorem dL_isStep_794 : decode cL_isStep 794 = .ok (.iadd, 1) := by decide +kernel
theorem dL_isStep_795 : decode cL_isStep 795 = .ok (.if_icmp .ne 7, 3) := by decide +kernel
theorem dL_isStep_798 : decode cL_isStep 798 = .ok (.iconst 1, 1) := by decide +kernel
theorem dL_isStep_799 : decode cL_isStep 799 = .ok (.goto 4, 3) := by decide +kernel
theorem dL_isStep_802 : decode cL_isStep 802 = .ok (.iconst 0, 1) := by decide +kernel
theorem dL_isStep_803 : decode cL_isStep 803 = .ok (.ireturn, 1) := by decide +kernel
theorem dL_isStep_804 : decode cL_isStep 804 = .ok (.iload 5, 2) := by decide +kernel
theorem dL_isStep_806 : decode cL_isStep 806 = .ok (.sipush 257, 3) := by decide +kernel
theorem dL_isStep_809 : decode cL_isStep 809 = .ok (.invokestatic 15, 3) := by decide +kernel
theorem dL_isStep_812 : decode cL_isStep 812 = .ok (.istore 10, 2) := by decide +kernel
theorem dL_isStep_814 : decode cL_isStep 814 = .ok (.iconst 1, 1) := by decide +kernel
theorem dL_isStep_815 : decode cL_isStep 815 = .ok (.iload_n 3, 1) := by decide +kernel
theorem dL_isStep_816 : decode cL_isStep 816 = .ok (.bipush 9, 2) := by decide +kernel
theorem dL_isStep_818 : decode cL_isStep 818 = .ok (.ishr, 1) := by decide +kernel
theorem dL_isStep_819 : decode cL_isStep 819 = .ok (.sipush 255, 3) := by decide +kernel
theorem dL_isStep_822 : decode cL_isStep 822 = .ok (.invokestatic 15, 3) := by decide +kernel
theorem dL_isStep_825 : decode cL_isStep 825 = .ok (.iadd, 1) := by decide +kernel
theorem dL_isStep_826 : decode cL_isStep 826 = .ok (.istore 11, 2) := by decide +kernel
theorem dL_isStep_828 : decode cL_isStep 828 = .ok (.iload 6, 2) := by decide +kernel
theorem dL_isStep_830 : decode cL_isStep 830 = .ok (.iload 4, 2) := by decide +kernel
theorem dL_isStep_832 : decode cL_isStep 832 = .ok (.if_icmp .ne 24, 3) := by decide +kernel
theorem dL_isStep_835 : decode cL_isStep 835 = .ok (.aload_n 0, 1) := by decide +kernel
theorem dL_isStep_836 : decode cL_isStep 836 = .ok (.iload 6, 2) := by decide +kernel
theorem dL_isStep_838 : decode cL_isStep 838 = .ok (.iload 10, 2) := by decide +kernel
theorem dL_isStep_840 : decode cL_isStep 840 = .ok (.iload 11, 2) := by decide +kernel
theorem dL_isStep_842 : decode cL_isStep 842 = .ok (.invokevirtual 48, 3) := by decide +kernel
theorem dL_isStep_845 : decode cL_isStep 845 = .ok (.ldc 35, 2) := by decide +kernel
theorem dL_isStep_847 : decode cL_isStep 847 = .ok (.if_icmp .ne 7, 3) := by decide +kernel
theorem dL_isStep_850 : decode cL_isStep 850 = .ok (.iconst 1, 1) := by decide +kernel
theorem dL_isStep_851 : decode cL_isStep 851 = .ok (.goto 4, 3) := by decide +kernel
theorem dL_isStep_854 : decode cL_isStep 854 = .ok (.iconst 0, 1) := by decide +kernel
theorem dL_isStep_855 : decode cL_isStep 855 = .ok (.ireturn, 1) := by decide +kernel
theorem dL_isStep_856 : decode cL_isStep 856 = .ok (.aload_n 0, 1) := by decide +kernel
theorem dL_isStep_857 : decode cL_isStep 857 = .ok (.iload 6, 2) := by decide +kernel
theorem dL_isStep_859 : decode cL_isStep 859 = .ok (.iload 10, 2) := by decide +kernel
theorem dL_isStep_861 : decode cL_isStep 861 = .ok (.iload 11, 2) := by decide +kernel
theorem dL_isStep_863 : decode cL_isStep 863 = .ok (.invokevirtual 48, 3) := by decide +kernel
theorem dL_isStep_866 : decode cL_isStep 866 = .ok (.istore 12, 2) := by decide +kernel
theorem dL_isStep_868 : decode cL_isStep 868 = .ok (.iload 12, 2) := by decide +kernel
theorem dL_isStep_870 : decode cL_isStep 870 = .ok (.aload_n 1, 1) := by decide +kernel
theorem dL_isStep_871 : decode cL_isStep 871 = .ok (.iconst 2, 1) := by decide +kernel
theorem dL_isStep_872 : decode cL_isStep 872 = .ok (.iload 6, 2) := by decide +kernel
theorem dL_isStep_874 : decode cL_isStep 874 = .ok (.imul, 1) := by decide +kernel
theorem dL_isStep_875 : decode cL_isStep 875 = .ok (.iload 10, 2) := by decide +kernel
theorem dL_isStep_877 : decode cL_isStep 877 = .ok (.iload 11, 2) := by decide +kernel
theorem dL_isStep_879 : decode cL_isStep 879 = .ok (.invokevirtual 48, 3) := by decide +kernel
theorem dL_isStep_882 : decode cL_isStep 882 = .ok (.if_icmp .ne 37, 3) := by decide +kernel
theorem dL_isStep_885 : decode cL_isStep 885 = .ok (.iload 12, 2) := by decide +kernel
theorem dL_isStep_887 : decode cL_isStep 887 = .ok (.ldc 51, 2) := by decide +kernel
theorem dL_isStep_889 : decode cL_isStep 889 = .ok (.if_icmp .ne 7, 3) := by decide +kernel
theorem dL_isStep_892 : decode cL_isStep 892 = .ok (.iconst 1, 1) := by decide +kernel
theorem dL_isStep_893 : decode cL_isStep 893 = .ok (.goto 4, 3) := by decide +kernel
theorem dL_isStep_896 : decode cL_isStep 896 = .ok (.iconst 0, 1) := by decide +kernel
theorem dL_isStep_897 : decode cL_isStep 897 = .ok (.aload_n 0, 1) := by decide +kernel
theorem dL_isStep_898 : decode cL_isStep 898 = .ok (.iload 6, 2) := by decide +kernel
theorem dL_isStep_900 : decode cL_isStep 900 = .ok (.iconst 0, 1) := by decide +kernel
theorem dL_isStep_901 : decode cL_isStep 901 = .ok (.invokevirtual 36, 3) := by decide +kernel
theorem dL_isStep_904 : decode cL_isStep 904 = .ok (.ifCond .le 7, 3) := by decide +kernel
theorem dL_isStep_907 : decode cL_isStep 907 = .ok (.iconst 1, 1) := by decide +kernel
theorem dL_isStep_908 : decode cL_isStep 908 = .ok (.goto 4, 3) := by decide +kernel
theorem dL_isStep_911 : decode cL_isStep 911 = .ok (.iconst 0, 1) := by decide +kernel
theorem dL_isStep_912 : decode cL_isStep 912 = .ok (.if_icmp .ne 7, 3) := by decide +kernel
theorem dL_isStep_915 : decode cL_isStep 915 = .ok (.iconst 1, 1) := by decide +kernel
theorem dL_isStep_916 : decode cL_isStep 916 = .ok (.goto 4, 3) := by decide +kernel
theorem dL_isStep_919 : decode cL_isStep 919 = .ok (.iconst 0, 1) := by decide +kernel
theorem dL_isStep_920 : decode cL_isStep 920 = .ok (.ireturn, 1) := by decide +kernel
theorem dL_isStep_921 : decode cL_isStep 921 = .ok (.iconst 1, 1) := by decide +kernel
theorem dL_isStep_922 : decode cL_isStep 922 = .ok (.iload_n 3, 1) := by decide +kernel
theorem dL_isStep_923 : decode cL_isStep 923 = .ok (.iload 5, 2) := by decide +kernel
theorem dL_isStep_925 : decode cL_isStep 925 = .ok (.iconst 4, 1) := by decide +kernel
theorem dL_isStep_926 : decode cL_isStep 926 = .ok (.invokestatic 15, 3) := by decide +kernel
theorem dL_isStep_929 : decode cL_isStep 929 = .ok (.ifCond .ne 9, 3) := by decide +kernel
theorem dL_isStep_932 : decode cL_isStep 932 = .ok (.sipush 1000, 3) := by decide +kernel
theorem dL_isStep_935 : decode cL_isStep 935 = .ok (.goto 6, 3) := by decide +kernel
theorem dL_isStep_938 : decode cL_isStep 938 = .ok (.sipush 200, 3) := by decide +kernel
theorem dL_isStep_941 : decode cL_isStep 941 = .ok (.invokestatic 15, 3) := by decide +kernel
theorem dL_isStep_944 : decode cL_isStep 944 = .ok (.iadd, 1) := by decide +kernel
theorem dL_isStep_945 : decode cL_isStep 945 = .ok (.istore 10, 2) := by decide +kernel
theorem dL_isStep_947 : decode cL_isStep 947 = .ok (.aload_n 0, 1) := by decide +kernel
theorem dL_isStep_948 : decode cL_isStep 948 = .ok (.iload 10, 2) := by decide +kernel
theorem dL_isStep_950 : decode cL_isStep 950 = .ok (.invokevirtual 52, 3) := by decide +kernel
theorem dL_isStep_953 : decode cL_isStep 953 = .ok (.aload_n 1, 1) := by decide +kernel
theorem dL_isStep_954 : decode cL_isStep 954 = .ok (.iload 10, 2) := by decide +kernel
theorem dL_isStep_956 : decode cL_isStep 956 = .ok (.invokevirtual 52, 3) := by decide +kernel
theorem dL_isStep_959 : decode cL_isStep 959 = .ok (.if_icmp .ne 17, 3) := by decide +kernel
theorem dL_isStep_962 : decode cL_isStep 962 = .ok (.aload_n 0, 1) := by decide +kernel
theorem dL_isStep_963 : decode cL_isStep 963 = .ok (.iconst 1, 1) := by decide +kernel
theorem dL_isStep_964 : decode cL_isStep 964 = .ok (.invokevirtual 9, 3) := by decide +kernel
theorem dL_isStep_967 : decode cL_isStep 967 = .ok (.iload 10, 2) := by decide +kernel
theorem dL_isStep_969 : decode cL_isStep 969 = .ok (.if_icmp .ne 7, 3) := by decide +kernel
theorem dL_isStep_972 : decode cL_isStep 972 = .ok (.iconst 1, 1) := by decide +kernel
theorem dL_isStep_973 : decode cL_isStep 973 = .ok (.goto 4, 3) := by decide +kernel
theorem dL_isStep_976 : decode cL_isStep 976 = .ok (.iconst 0, 1) := by decide +kernel
theorem dL_isStep_977 : decode cL_isStep 977 = .ok (.ireturn, 1) := by decide +kernel
theorem dL_isStep_978 : decode cL_isStep 978 = .ok (.iload 6, 2) := by decide +kernel
theorem dL_isStep_980 : decode cL_isStep 980 = .ok (.iload 4, 2) := by decide +kernel
theorem dL_isStep_982 : decode cL_isStep 982 = .ok (.if_icmp .eq 28, 3) := by decide +kernel
theorem dL_isStep_985 : decode cL_isStep 985 = .ok (.aload_n 0, 1) := by decide +kernel
theorem dL_isStep_986 : decode cL_isStep 986 = .ok (.iload 6, 2) := by decide +kernel
theorem dL_isStep_988 : decode cL_isStep 988 = .ok (.iload 7, 2) := by decide +kernel
theorem dL_isStep_990 : decode cL_isStep 990 = .ok (.iload 4, 2) := by decide +kernel
theorem dL_isStep_992 : decode cL_isStep 992 = .ok (.if_icmp .ne 7, 3) := by decide +kernel
theorem dL_isStep_995 : decode cL_isStep 995 = .ok (.iconst 0, 1) := by decide +kernel
theorem dL_isStep_996 : decode cL_isStep 996 = .ok (.goto 5, 3) := by decide +kernel
theorem dL_isStep_999 : decode cL_isStep 999 = .ok (.iload 7, 2) := by decide +kernel
theorem dL_isStep_1001 : decode cL_isStep 1001 = .ok (.iload_n 3, 1) := by decide +kernel
theorem dL_isStep_1002 : decode cL_isStep 1002 = .ok (.iconst 4, 1) := by decide +kernel
theorem dL_isStep_1003 : decode cL_isStep 1003 = .ok (.ishr, 1) := by decide +kernel
theorem dL_isStep_1004 : decode cL_isStep 1004 = .ok (.invokestatic 55, 3) := by decide +kernel
theorem dL_isStep_1007 : decode cL_isStep 1007 = .ok (.ifCond .eq 7, 3) := by decide +kernel
theorem dL_isStep_1010 : decode cL_isStep 1010 = .ok (.iconst 1, 1) := by decide +kernel
theorem dL_isStep_1011 : decode cL_isStep 1011 = .ok (.goto 4, 3) := by decide +kernel
theorem dL_isStep_1014 : decode cL_isStep 1014 = .ok (.iconst 0, 1) := by decide +kernel
theorem dL_isStep_1015 : decode cL_isStep 1015 = .ok (.ireturn, 1) := by decide +kernel
theorem dL_isStep_1016 : decode cL_isStep 1016 = .ok (.iload 4, 2) := by decide +kernel
theorem dL_isStep_1018 : decode cL_isStep 1018 = .ok (.ifCond .eq 17, 3) := by decide +kernel
theorem dL_isStep_1021 : decode cL_isStep 1021 = .ok (.aload_n 0, 1) := by decide +kernel
theorem dL_isStep_1022 : decode cL_isStep 1022 = .ok (.aload_n 1, 1) := by decide +kernel
theorem dL_isStep_1023 : decode cL_isStep 1023 = .ok (.iload_n 3, 1) := by decide +kernel
theorem dL_isStep_1024 : decode cL_isStep 1024 = .ok (.iload 4, 2) := by decide +kernel
theorem dL_isStep_1026 : decode cL_isStep 1026 = .ok (.invokestatic 15, 3) := by decide +kernel
theorem dL_isStep_1029 : decode cL_isStep 1029 = .ok (.invokestatic 59, 3) := by decide +kernel
theorem dL_isStep_1032 : decode cL_isStep 1032 = .ok (.ifCond .eq 7, 3) := by decide +kernel
theorem dL_isStep_1035 : decode cL_isStep 1035 = .ok (.iconst 1, 1) := by decide +kernel
theorem dL_isStep_1036 : decode cL_isStep 1036 = .ok (.goto 4, 3) := by decide +kernel
theorem dL_isStep_1039 : decode cL_isStep 1039 = .ok (.iconst 0, 1) := by decide +kernel
theorem dL_isStep_1040 : decode cL_isStep 1040 = .ok (.ireturn, 1) := by decide +kernel
end
section
/-! the state of an object: ints by region and place, longs by row and place; an object's world is one list of 48 cells -/
abbrev CF : Type := Nat → Nat → Int32
abbrev GF : Type := Nat → Nat → Int64
abbrev SS : Type := CF × GF
abbrev EV : Type := va_G × (Nat → ClassId) × (Nat → Nat) × (Nat → Prop) × (Nat → Nat)
def eD (E : EV) : va_G := E.1
def eT (E : EV) : Nat → ClassId := E.2.1
def eA (E : EV) : Nat → Nat := E.2.2.1
def eR (E : EV) : Nat → Prop := E.2.2.2.1
def eS (E : EV) : Nat → Nat := E.2.2.2.2
def up (c : CF) (r i : Nat) (v : Int32) : CF := fun q => if q = r then upd (c r) i v else c q
def upG (g : GF) (r i : Nat) (v : Int64) : GF := fun q => if q = r then vp_updL (g r) i v else g q
theorem up_s (c : CF) (r i : Nat) (v : Int32) : up c r i v r i = v := by simp [up, upd]
theorem up_i (c : CF) {r i j : Nat} (v : Int32) (h : j ≠ i) : up c r i v r j = c r j := by simp [up, upd, h]
theorem up_r (c : CF) {r i q : Nat} (v : Int32) (h : q ≠ r) : up c r i v q = c q := by simp [up, h]
theorem up_at (c : CF) (r i : Nat) (v : Int32) (q j : Nat) : up c r i v q j = if q = r ∧ j = i then v else c q j := by
  by_cases h : q = r
  · subst h
    by_cases h2 : j = i
    · subst h2; simp [up, upd]
    · simp [up, upd, h2]
  · simp [up, h]
theorem upG_at (c : GF) (r i : Nat) (v : Int64) (q j : Nat) : upG c r i v q j = if q = r ∧ j = i then v else c q j := by
  by_cases h : q = r
  · subst h
    by_cases h2 : j = i
    · subst h2; simp [upG, vp_updL]
    · simp [upG, vp_updL, h2]
  · simp [upG, h]
/-- the world -/
def wl (E : EV) (u : SS) : va_W := [(eA E 0, .inr (5, [.ref (eA E 10), .ref (eA E 13), .int (u.1 0 0), .ref (eA E 16), .ref (eA E 1), .ref (eA E 3), .ref (eA E 5), .ref (eA E 9)])), (eA E 1, .inr (3, [.ref (eA E 2), .int (u.1 0 1), .int (u.1 0 2)])), (eA E 2, .inl (eT E 3, 4, .inr (.inr (.inr (.inr (fun i => some (eA E (19 + 3 * i)))))))), (eA E 3, .inr (1, [.ref (eA E 4), .int (u.1 0 3), .int (u.1 0 4)])), (eA E 4, .inl (eT E 1, 80, .inl (u.1 6))), (eA E 5, .inr (2, [.ref (eA E 6), .ref (eA E 7), .ref (eA E 8)])), (eA E 6, .inl (eT E 0, 16, .inl (u.1 3))), (eA E 7, .inl (eT E 0, 16, .inl (u.1 4))), (eA E 8, .inl (eT E 0, 16, .inl (u.1 5))), (eA E 9, .inr (4, [.ref (eA E 31)])), (eA E 10, .inr (0, [.int (u.1 1 0), .int (u.1 2 0), .ref (eA E 11), .ref (eA E 12)])), (eA E 11, .inl (eT E 0, 16, .inl (u.1 20))), (eA E 12, .inl (eT E 0, 48, .inl (u.1 30))), (eA E 13, .inr (0, [.int (u.1 1 1), .int (u.1 2 1), .ref (eA E 14), .ref (eA E 15)])), (eA E 14, .inl (eT E 0, 16, .inl (u.1 21))), (eA E 15, .inl (eT E 0, 48, .inl (u.1 31))), (eA E 16, .inr (0, [.int (u.1 1 2), .int (u.1 2 2), .ref (eA E 17), .ref (eA E 18)])), (eA E 17, .inl (eT E 0, 16, .inl (u.1 22))), (eA E 18, .inl (eT E 0, 48, .inl (u.1 32))), (eA E 19, .inr (0, [.int (u.1 1 3), .int (u.1 2 3), .ref (eA E 20), .ref (eA E 21)])), (eA E 20, .inl (eT E 0, 16, .inl (u.1 23))), (eA E 21, .inl (eT E 0, 48, .inl (u.1 33))), (eA E 22, .inr (0, [.int (u.1 1 4), .int (u.1 2 4), .ref (eA E 23), .ref (eA E 24)])), (eA E 23, .inl (eT E 0, 16, .inl (u.1 24))), (eA E 24, .inl (eT E 0, 48, .inl (u.1 34))), (eA E 25, .inr (0, [.int (u.1 1 5), .int (u.1 2 5), .ref (eA E 26), .ref (eA E 27)])), (eA E 26, .inl (eT E 0, 16, .inl (u.1 25))), (eA E 27, .inl (eT E 0, 48, .inl (u.1 35))), (eA E 28, .inr (0, [.int (u.1 1 6), .int (u.1 2 6), .ref (eA E 29), .ref (eA E 30)])), (eA E 29, .inl (eT E 0, 16, .inl (u.1 26))), (eA E 30, .inl (eT E 0, 48, .inl (u.1 36))), (eA E 31, .inl (eT E 4, 16, .inr (.inr (.inr (.inr (fun i => some (eA E (32 + i)))))))), (eA E 32, .inl (eT E 2, 16, .inr (.inl (u.2 0)))), (eA E 33, .inl (eT E 2, 16, .inr (.inl (u.2 1)))), (eA E 34, .inl (eT E 2, 16, .inr (.inl (u.2 2)))), (eA E 35, .inl (eT E 2, 16, .inr (.inl (u.2 3)))), (eA E 36, .inl (eT E 2, 16, .inr (.inl (u.2 4)))), (eA E 37, .inl (eT E 2, 16, .inr (.inl (u.2 5)))), (eA E 38, .inl (eT E 2, 16, .inr (.inl (u.2 6)))), (eA E 39, .inl (eT E 2, 16, .inr (.inl (u.2 7)))), (eA E 40, .inl (eT E 2, 16, .inr (.inl (u.2 8)))), (eA E 41, .inl (eT E 2, 16, .inr (.inl (u.2 9)))), (eA E 42, .inl (eT E 2, 16, .inr (.inl (u.2 10)))), (eA E 43, .inl (eT E 2, 16, .inr (.inl (u.2 11)))), (eA E 44, .inl (eT E 2, 16, .inr (.inl (u.2 12)))), (eA E 45, .inl (eT E 2, 16, .inr (.inl (u.2 13)))), (eA E 46, .inl (eT E 2, 16, .inr (.inl (u.2 14)))), (eA E 47, .inl (eT E 2, 16, .inr (.inl (u.2 15))))]
/-- the nest mates' links -/
def nestL : List Cond := [.methodLinkNest "ShareStreams" 9 ⟨"ShareStreams$Bench", "<init>", "()V"⟩ "ShareStreams", .fieldLinkNest "ShareStreams" 97 "ShareStreams$Bench" "length" "I" "ShareStreams", .fieldLinkNest "ShareStreams$Figures" 21 "ShareStreams$Bench" "size" "I" "ShareStreams", .fieldLinkNest "ShareStreams" 90 "ShareStreams$Bench" "size" "I" "ShareStreams", .methodLinkNest "ShareStreams" 28 ⟨"ShareStreams$History", "<init>", "()V"⟩ "ShareStreams", .methodLinkNest "ShareStreams$History" 24 ⟨"ShareStreams$Bench", "<init>", "()V"⟩ "ShareStreams", .fieldLinkNest "ShareStreams" 118 "ShareStreams$History" "size" "I" "ShareStreams", .methodLinkNest "ShareStreams" 35 ⟨"ShareStreams$CircuitText", "<init>", "()V"⟩ "ShareStreams", .fieldLinkNest "ShareStreams" 113 "ShareStreams$CircuitText" "size" "I" "ShareStreams", .methodLinkNest "ShareStreams" 42 ⟨"ShareStreams$Figures", "<init>", "()V"⟩ "ShareStreams", .methodLinkNest "ShareStreams" 49 ⟨"ShareStreams$Streams", "<init>", "()V"⟩ "ShareStreams", .methodLinkNest "ShareStreams" 177 ⟨"ShareStreams$Bench", "sources", "()I"⟩ "ShareStreams", .methodLinkNest "ShareStreams$Bench" 25 ⟨"ShareStreams", "elementAt", "([II)I"⟩ "ShareStreams", .methodLinkNest "ShareStreams" 134 ⟨"ShareStreams$Figures", "workOut", "(LShareStreams$Bench;)V"⟩ "ShareStreams", .methodLinkNest "ShareStreams$Figures" 60 ⟨"ShareStreams$Bench", "numberOf", "(II)I"⟩ "ShareStreams", .methodLinkNest "ShareStreams$Figures" 41 ⟨"ShareStreams", "elementAt", "([II)I"⟩ "ShareStreams", .methodLinkNest "ShareStreams$Figures" 66 ⟨"ShareStreams$Bench", "kindOf", "(I)I"⟩ "ShareStreams", .methodLinkNest "ShareStreams$Figures" 31 ⟨"ShareStreams", "setElement", "([III)V"⟩ "ShareStreams", .methodLinkNest "ShareStreams$Figures" 80 ⟨"ShareStreams", "linesOfKind", "(I)I"⟩ "ShareStreams", .methodLinkNest "ShareStreams" 149 ⟨"ShareStreams$Streams", "fill", "(LShareStreams$Bench;II)V"⟩ "ShareStreams", .methodLinkNest "ShareStreams$Streams" 20 ⟨"ShareStreams$Bench", "kindOf", "(I)I"⟩ "ShareStreams", .methodLinkNest "ShareStreams$Streams" 26 ⟨"ShareStreams$Bench", "numberOf", "(II)I"⟩ "ShareStreams", .methodLinkNest "ShareStreams" 165 ⟨"ShareStreams$Streams", "onesIn", "(II)I"⟩ "ShareStreams", .methodLinkNest "ShareStreams" 137 ⟨"ShareStreams$Figures", "exactShareOf", "(I)I"⟩ "ShareStreams", .methodLinkNest "ShareStreams" 187 ⟨"ShareStreams$Figures", "greatestDepth", "(I)I"⟩ "ShareStreams", .methodLinkNest "ShareStreams" 82 ⟨"ShareStreams$History", "push", "(LShareStreams$Bench;)V"⟩ "ShareStreams", .methodLinkNest "ShareStreams$History" 29 ⟨"ShareStreams$Bench", "copyFrom", "(LShareStreams$Bench;)V"⟩ "ShareStreams", .methodLinkNest "ShareStreams$Bench" 29 ⟨"ShareStreams", "setElement", "([III)V"⟩ "ShareStreams", .methodLinkNest "ShareStreams" 94 ⟨"ShareStreams$Bench", "dropLast", "()V"⟩ "ShareStreams", .methodLinkNest "ShareStreams" 190 ⟨"ShareStreams$Bench", "add", "(IIII)V"⟩ "ShareStreams", .methodLinkNest "ShareStreams" 63 ⟨"ShareStreams$Bench", "has", "(I)Z"⟩ "ShareStreams", .methodLinkNest "ShareStreams" 72 ⟨"ShareStreams$Bench", "kindOf", "(I)I"⟩ "ShareStreams", .methodLinkNest "ShareStreams" 77 ⟨"ShareStreams$Bench", "numberOf", "(II)I"⟩ "ShareStreams", .methodLinkNest "ShareStreams" 143 ⟨"ShareStreams$Figures", "depthOf", "(I)I"⟩ "ShareStreams", .methodLinkNest "ShareStreams" 146 ⟨"ShareStreams$Figures", "sourcesOf", "(I)I"⟩ "ShareStreams", .methodLinkNest "ShareStreams" 153 ⟨"ShareStreams$Streams", "bitAt", "(II)I"⟩ "ShareStreams", .methodLinkNest "ShareStreams" 86 ⟨"ShareStreams$Bench", "setSource", "(III)V"⟩ "ShareStreams", .methodLinkNest "ShareStreams" 161 ⟨"ShareStreams$Streams", "onesInBoth", "(III)I"⟩ "ShareStreams"]
def nestW : Cond → Bool
  | .methodLinkNest _ _ _ _ => true
  | .fieldLinkNest _ _ _ _ _ _ => true
  | _ => false
theorem nestL_nest : ∀ w ∈ nestL, nestW w = true := List.all_eq_true.mp (by decide +kernel)
theorem nestL_in : ∀ w ∈ nestL, w ∈ lw_tbl := by decide +kernel
theorem nest_warm {w : Cond} (h : nestW w = true) {s U : State} (hW : s.WarmedH U.vm) (hZ : va_Nw w s) : va_Nw w U := by
  cases w <;> first | (exact va_Nw.warmM hW hZ) | (exact va_Nw.warmF hW hZ) | (cases h)
theorem nest_same {w : Cond} (h : nestW w = true) {u U : State} (hv : u.vm = U.vm) (hZ : va_Nw w u) : va_Nw w U := by
  cases w <;> first | (exact va_Nw.same rfl hv hZ) | (cases h)
theorem nest_use {w : Cond} (h : nestW w = true) {A : Array Value} {U : State} (hZ : va_Nw w U) : w.before A U = true := by
  cases w <;> first | (exact va_Nw.use rfl hZ) | (cases h)
theorem nest_of {w : Cond} (h : nestW w = true) {A : Array Value} {U : State} (hZ : w.before A U = true) : va_Nw w U := by
  cases w <;> first | (exact va_Nw.of rfl hZ) | (cases h)
theorem gW_in {y : MethodName} {cc : ByteArray} {k : Nat} {ret : Option FieldType} (h : Cond.code y cc k ret ∈ gW) : GoodIn gW (Cond.code y cc k ret :: gW) := fun w hw => (List.mem_cons.mp hw).elim (fun e => by rw [e]; exact ⟨h, good_of_word (gW_good _ h)⟩) (fun hw => ⟨hw, good_of_word (gW_good _ hw)⟩)
/-- the two tables -/
def tblF (q : Nat) : Nat → Int32 := fun j => if q = 0 then (([2, 2, 2, 2, 3, 1, 2] : List Int32).getD j 0) else (([0, 2, 2, 2, 3, 1, 1] : List Int32).getD j 0)
def tysL (E : EV) : List (ClassId × FieldType) := [(eT E 0, .int), (eT E 1, .char), (eT E 2, .long), (eT E 3, .object "ShareStreams$Bench"), (eT E 4, .array .long)]
/-- what a start gives beside the world, and no call changes -/
def KK (E : EV) (U : State) : Prop :=
  va_K (eD E) vwCl (tysL E) U ∧ (∀ w ∈ nestL, va_Nw w U) ∧
  (va_Z "ShareStreams" "NUMBERS_OF_KIND" "[I" (.ref (eS E 0)) (eR E) U U.heap ∧ va_T .int (eS E 0) 7 (fun j => .int (tblF 0 j)) (eR E) U U.heap) ∧
  (va_Z "ShareStreams" "LINES_OF_KIND" "[I" (.ref (eS E 1)) (eR E) U U.heap ∧ va_T .int (eS E 1) 7 (fun j => .int (tblF 1 j)) (eR E) U U.heap) ∧
  True
theorem KK.step {E : EV} {s U : State} {H : Heap} {locs : List Loc} (h : KK E s) (hS : va_S (eR E) s.heap H locs) (hU : U.heap = H) (hW : s.WarmedH U.vm) : KK E U := by
  obtain ⟨h1, h2, ⟨h3, h4⟩, ⟨h5, h6⟩, -⟩ := h
  have hk := hS.2.1
  have ha := hW.alike
  unfold KK
  rw [hU]
  exact ⟨h1.moved ha, fun w hw => nest_warm (nestL_nest w hw) hW (h2 w hw), ⟨(h3.kept hk).moved ha, (h4.kept hk).moved ha⟩, ⟨(h5.kept hk).moved ha, (h6.kept hk).moved ha⟩, trivial⟩
theorem KK.calling {E : EV} {a : Array Value} {U : State} {g : JFrame} {mk : MethodId} (h : KK E U) : KK E (U.calling g mk a) := by
  obtain ⟨h1, h2, ⟨h3, h4⟩, ⟨h5, h6⟩, -⟩ := h
  have ha : U.vm.Alike (U.calling g mk a).vm := Vm.Alike.refl U.vm
  exact ⟨h1.moved ha, fun w hw => nest_same (u := U) (U := U.calling g mk a) (nestL_nest w hw) rfl (h2 w hw), ⟨h3.moved ha, h4.moved ha⟩, ⟨h5.moved ha, h6.moved ha⟩, trivial⟩
def Sw (E : EV) (u : SS) (H : Heap) : Prop := va_P (eD E) vwCl (wl E u) H ∧ va_D (eR E) (wl E u)
def Pre (E : EV) (u : SS) : State → Prop := fun U => Sw E u U.heap ∧ KK E U
def Iv (E : EV) (s : State) (H : Heap) (locs : List Loc) (u : SS) : Prop := Sw E u H ∧ va_S (eR E) s.heap H locs
/-- what a body leans on -/
def Fx (E : EV) (p : Program) (s : State) (m : MethodId) (args : Array Value) (meth : Method) (co : Code) (cc : ByteArray) (nL : Nat) (own : String) (ret : Option FieldType) : Prop :=
  p.tables.exec = Jvm.exec ∧ co.code = cc ∧ co.maxLocals = nL ∧ s.vm.findClass own = some m.cls ∧ (∀ w ∈ gW, w.before args s = true) ∧ KK E s ∧ meth.sig.returnType = ret ∧ meth.locks = false
theorem Pre.blind {E : EV} {u : SS} {av : List Value} : FrameBlind (va_Pc av (Pre E u)) := fun a U g mk q => ⟨q.1, q.2.1, q.2.2.calling⟩
abbrev Q_i {S : Type} (E : EV) (post : Int32 → S → Prop) (emb : S → SS) : Array Value → State → Outcome → State → Prop := va_Qi post (fun v t => Sw E (emb v) t.heap) (eR E)
abbrev Q_l {S : Type} (E : EV) (post : Int64 → S → Prop) (emb : S → SS) : Array Value → State → Outcome → State → Prop := va_Ql post (fun v t => Sw E (emb v) t.heap) (eR E)
abbrev Q_v {S : Type} (E : EV) (post : S → Prop) (emb : S → SS) : Array Value → State → Outcome → State → Prop := va_Qv post (fun v t => Sw E (emb v) t.heap) (eR E)
abbrev Q_q {S : Type} (E : EV) (post : Option Nat → S → Prop) (emb : S → SS) : Array Value → State → Outcome → State → Prop := va_Qq post (fun v t => Sw E (emb v) t.heap) (eR E)
/-- a contract: from the world u, with a method's end Qc, making nothing -/
abbrev CT (l : Launch) (y : MethodName) (cc : ByteArray) (maxL : Nat) (ret : Option FieldType) (rm : Room) (av : List Value) (E : EV) (u : SS) (Qc : Array Value → State → Outcome → State → Prop) : Prop :=
  Met l y (Cond.code y cc maxL ret :: gW) rm (va_Pc av (Pre E u)) Qc 0 0 (eR E)
abbrev Rm (f k : Nat) : Room := { frames := f, cells := 0, slots := 0, locals := k }
theorem mstart {l : Launch} {y : MethodName} {cc : ByteArray} {maxL : Nat} {ret : Option FieldType} {f k : Nat} {E : EV} {u : SS} {av : List Value} {Qc : Array Value → State → Outcome → State → Prop} (own : String) (hy : plainName y.cls = true) (ho : y.cls = own) (hn : (lg_sl av).length ≤ maxL)
    (body : ∀ (p : Program) (e : Env) (s : State) (m : MethodId) (args : Array Value) (below : List Frame) (meth : Method) (co : Code) (ls : Array Slot) (Q : State → Prop), MQ below Qc args s 0 0 (eR E) = Q → Fx E p s m args meth co cc maxL own ret → Iv E s s.heap [] u → lv_has ls maxL (lv_args 0 av) → W p l e (Rm f k) s m args below meth co s.heap [] 0 0 Q (F0 m 0 ls [])) : CT l y cc maxL ret (Rm f k) av E u Qc := by
  refine Met.ofW (cc := cc) (maxL := maxL) (ret := ret) hy rfl ?_
  intro p e s m args below meth c s₁ B hml hv
  obtain ⟨rfl, hSw, hK⟩ := hv
  have hts := atoms_spec (ws := Cond.code y cc maxL ret :: gW) B.pre
  have hown : s.vm.findClass y.cls = some m.cls := findClass_of_methodNamed B.named
  rw [lg_entry_eq]
  exact body p e s m _ below meth c _ _ rfl ⟨B.exec, B.bytes, hml, ho ▸ hown, fun w hw => hts w (List.mem_cons_of_mem _ hw), hK, B.returns, B.notSynchronized⟩ ⟨hSw, va_S.rf⟩ (lv_entry av hn)
section WR
variable {p : Program} {l : Launch} {e : Env} {R : Room} {s : State} {m : MethodId} {args : Array Value} {below : List Frame} {meth : Method} {co : Code} {H : Heap} {locs : List Loc} {cells slots : Nat} {Q : State → Prop}
variable {cc : ByteArray} {pc : Nat} {ls : Array Slot} {rest : List Value} {E : EV} {u : SS} {nL : Nat} {own : String} {ret : Option FieldType}
theorem rI {S : Type} {post : Int32 → S → Prop} {emb : S → SS} (hQ : MQ below (Q_i E post emb) args s cells slots (eR E) = Q) (F : Fx E p s m args meth co cc nL own (some .int)) {v : S} {r : Int32} (hI : Iv E s H locs (emb v)) (hdg : decode cc pc = .ok (.ireturn, 1)) (hp : post r v) : W p l e R s m args below meth co H locs cells slots Q (F0 m pc ls [.int r]) := by
  rw [← hQ]
  exact W.iret F.1 F.2.1 F.2.2.2.2.2.2.1 (fun t ht _ => ⟨⟨r, v, rfl, hp, by show Sw E _ t.heap; rw [ht]; exact hI.1⟩, hI.2.F ht⟩) hI.2.2.2 hdg F.2.2.2.2.2.2.2
theorem rZ {S : Type} {post : Int32 → S → Prop} {emb : S → SS} {ty : FieldType} (hQ : MQ below (Q_i E post emb) args s cells slots (eR E) = Q) (F : Fx E p s m args meth co cc nL own (some ty)) {v : S} {r : Int32} (hn : narrow ty (.int r) = .int r) (hI : Iv E s H locs (emb v)) (hdg : decode cc pc = .ok (.ireturn, 1)) (hp : post r v) : W p l e R s m args below meth co H locs cells slots Q (F0 m pc ls [.int r]) := by
  rw [← hQ]
  exact W.zret F.1 F.2.1 F.2.2.2.2.2.2.1 hn (fun t ht _ => ⟨⟨r, v, rfl, hp, by show Sw E _ t.heap; rw [ht]; exact hI.1⟩, hI.2.F ht⟩) hI.2.2.2 hdg F.2.2.2.2.2.2.2
theorem rL {S : Type} {post : Int64 → S → Prop} {emb : S → SS} (hQ : MQ below (Q_l E post emb) args s cells slots (eR E) = Q) (F : Fx E p s m args meth co cc nL own (some .long)) {v : S} {r : Int64} (hI : Iv E s H locs (emb v)) (hdg : decode cc pc = .ok (.lreturn, 1)) (hp : post r v) : W p l e R s m args below meth co H locs cells slots Q (F0 m pc ls [.long r]) := by
  rw [← hQ]
  exact W.lret F.1 F.2.1 F.2.2.2.2.2.2.1 (fun t ht _ => ⟨⟨r, v, rfl, hp, by show Sw E _ t.heap; rw [ht]; exact hI.1⟩, hI.2.F ht⟩) hI.2.2.2 hdg F.2.2.2.2.2.2.2
theorem rV {S : Type} {post : S → Prop} {emb : S → SS} (hQ : MQ below (Q_v E post emb) args s cells slots (eR E) = Q) (F : Fx E p s m args meth co cc nL own none) {v : S} (hI : Iv E s H locs (emb v)) (hdg : decode cc pc = .ok (.return_, 1)) (hp : post v) : W p l e R s m args below meth co H locs cells slots Q (F0 m pc ls []) := by
  rw [← hQ]
  exact W.vret F.1 F.2.1 F.2.2.2.2.2.2.1 (fun t ht _ => ⟨⟨v, rfl, hp, by show Sw E _ t.heap; rw [ht]; exact hI.1⟩, hI.2.F ht⟩) hI.2.2.2 hdg F.2.2.2.2.2.2.2
theorem rQ {S : Type} {post : Option Nat → S → Prop} {emb : S → SS} {nm : String} (hQ : MQ below (Q_q E post emb) args s cells slots (eR E) = Q) (F : Fx E p s m args meth co cc nL own (some (.object nm))) {v : S} {a : Nat} (hI : Iv E s H locs (emb v)) (hdg : decode cc pc = .ok (.areturn, 1)) (hp : post (some a) v) : W p l e R s m args below meth co H locs cells slots Q (F0 m pc ls [.ref a]) := by
  rw [← hQ]
  exact W.aret F.1 F.2.1 F.2.2.2.2.2.2.1 (Or.inl ⟨nm, rfl⟩) (Or.inr ⟨a, rfl⟩) (fun t ht _ => ⟨⟨some a, v, rfl, hp, by show Sw E _ t.heap; rw [ht]; exact hI.1⟩, hI.2.F ht⟩) hI.2.2.2 hdg F.2.2.2.2.2.2.2
def FLk (own : String) (idx : Nat) (ref n d : String) : Prop := Cond.fieldLink own idx ref n d ∈ gW ∨ ∃ host, Cond.fieldLinkNest own idx ref n d host ∈ nestL
theorem fG {C : String} {T : u_T} {N ci : Nat} {idx : Nat} {ref : String} (F : Fx E p s m args meth co cc nL own ret) (hI : Iv E s H locs u) (k : Nat) {a : Nat} {fs : List Value} (he : (wl E u)[k]? = some (a, .inr (ci, fs))) (hc : vwCl[ci]? = some (C, T, N)) (hin : ∀ w ∈ u_ws C T N, w ∈ gW) (j : Nat) (hj : j < N) (hL : FLk own idx ref (T j).2.1 (T j).2.2.1) (hs : (T j).1 = ref) {v : Value} (hv : fs[j]? = some v) (hdg : decode cc pc = .ok (.getfield idx, 3))
    (kk : W p l e R s m args below meth co H locs cells slots Q (F0 m (pc + 3) ls (v :: rest))) : W p l e R s m args below meth co H locs cells slots Q (F0 m pc ls (.ref a :: rest)) := by
  rcases hL with h | ⟨host, h⟩
  · exact va_get (ref := ref) F.1 F.2.1 F.2.2.2.2.1 hin F.2.2.2.1 F.2.2.2.2.2.1.1 hI.1.1 k he hc j hj (F.2.2.2.2.1 _ h) (fun x hx => by rw [← hs]; exact hx) hv hdg kk
  · exact va_getN (ref := ref) F.1 F.2.1 F.2.2.2.2.1 hin F.2.2.2.1 F.2.2.2.2.2.1.1 hI.1.1 k he hc j hj (nest_use (nestL_nest _ h) (F.2.2.2.2.2.1.2.1 _ h)) (fun x hx => by rw [← hs]; exact hx) hv hdg kk
theorem fP {C : String} {T : u_T} {N ci : Nat} {idx : Nat} {ref : String} (F : Fx E p s m args meth co cc nL own ret) (hI : Iv E s H locs u) (k : Nat) {a : Nat} {fs : List Value} (he : (wl E u)[k]? = some (a, .inr (ci, fs))) (hc : vwCl[ci]? = some (C, T, N)) (hin : ∀ w ∈ u_ws C T N, w ∈ gW) (ty0 : Nat → FieldType) (hty : ∀ k, k < N → parseFieldDescriptor (T k).2.2.1 = some (ty0 k)) (hnm : ∀ a, a < N → ∀ b, b < N → a ≠ b → (T a).2.1 ≠ (T b).2.1) (j : Nat) (hj : j < N) (hL : FLk own idx ref (T j).2.1 (T j).2.2.1) (hs : (T j).1 = ref) (hfin : (T j).2.2.2 = false) {v : Value} (hn : narrow (ty0 j) v = v) (hfit : fits (ty0 j) v = true) (hl : j < fs.length) {u' : SS} (hu : (wl E u).set k (a, .inr (ci, fs.set j v)) = wl E u') (hdg : decode cc pc = .ok (.putfield idx, 3))
    (kk : ∀ (H1 : Heap) (locs1 : List Loc), Iv E s H1 locs1 u' → W p l e R s m args below meth co H1 locs1 cells slots Q (F0 m (pc + 3) ls rest)) : W p l e R s m args below meth co H locs cells slots Q (F0 m pc ls (v :: .ref a :: rest)) := by
  have g : ∀ (H1 : Heap) (locs1 : List Loc), va_P (eD E) vwCl ((wl E u).set k (a, .inr (ci, fs.set j v))) H1 → va_D (eR E) ((wl E u).set k (a, .inr (ci, fs.set j v))) → va_S (eR E) s.heap H1 locs1 → W p l e R s m args below meth co H1 locs1 cells slots Q (F0 m (pc + 3) ls rest) := fun H1 locs1 h1 h2 h3 => by
    rw [hu] at h1 h2
    exact kk H1 locs1 ⟨⟨h1, h2⟩, h3⟩
  rcases hL with h | ⟨host, h⟩
  · exact va_put (ref := ref) F.1 F.2.1 F.2.2.2.2.1 hin ty0 hty hnm F.2.2.2.1 F.2.2.2.2.2.1.1 hI.1.1 hI.1.2 hI.2 k he hc j hj (F.2.2.2.2.1 _ h) (fun x hx => by rw [← hs]; exact hx) hfin (hty j hj) hn hfit hl hdg g
  · exact va_putN (ref := ref) F.1 F.2.1 F.2.2.2.2.1 hin ty0 hty hnm F.2.2.2.1 F.2.2.2.2.2.1.1 hI.1.1 hI.1.2 hI.2 k he hc j hj (nest_use (nestL_nest _ h) (F.2.2.2.2.2.1.2.1 _ h)) (fun x hx => by rw [← hs]; exact hx) hfin (hty j hj) hn hfit hl hdg g
/-- an int array is a region -/
def IsI (k r n : Nat) : Prop := ∀ (E : EV) (u : SS), (wl E u)[k]? = some (eA E k, .inl (eT E 0, n, .inl (u.1 r))) ∧ ∀ (i : Nat) (x : Int32), (wl E u).set k (eA E k, .inl (eT E 0, n, .inl (upd (u.1 r) i x))) = wl E (up u.1 r i x, u.2)
def IsL (k r : Nat) : Prop := ∀ (E : EV) (u : SS), (wl E u)[k]? = some (eA E k, .inl (eT E 2, 16, .inr (.inl (u.2 r)))) ∧ ∀ (i : Nat) (x : Int64), (wl E u).set k (eA E k, .inl (eT E 2, 16, .inr (.inl (vp_updL (u.2 r) i x)))) = wl E (u.1, upG u.2 r i x)
theorem nI_arr {i n : Nat} (h : i < n) (hn : n < 2 ^ 31) : vp_in (nI i) n ∧ (nI i).toNatClampNeg = i := ⟨vp_in_nI h hn, nI_clamp (by omega)⟩
theorem aIl {k r n : Nat} (F : Fx E p s m args meth co cc nL own ret) (hI : Iv E s H locs u) (h : IsI k r n) {i : Int32} (hin : vp_in i n) (hdg : decode cc pc = .ok (.iaload, 1))
    (kk : W p l e R s m args below meth co H locs cells slots Q (F0 m (pc + 1) ls (.int (u.1 r i.toNatClampNeg) :: rest))) : W p l e R s m args below meth co H locs cells slots Q (F0 m pc ls (.int i :: .ref (eA E k) :: rest)) :=
  va_iald F.1 F.2.1 F.2.2.2.2.2.1.1 hI.1.1 k 0 (h E u).1 rfl hin hdg kk
theorem aIlN {k r n : Nat} (F : Fx E p s m args meth co cc nL own ret) (hI : Iv E s H locs u) (h : IsI k r n) {i : Nat} (hin : i < n) (hn : n < 2 ^ 31) (hdg : decode cc pc = .ok (.iaload, 1))
    (kk : W p l e R s m args below meth co H locs cells slots Q (F0 m (pc + 1) ls (.int (u.1 r i) :: rest))) : W p l e R s m args below meth co H locs cells slots Q (F0 m pc ls (.int (nI i) :: .ref (eA E k) :: rest)) :=
  aIl F hI h (nI_arr hin hn).1 hdg (by rw [(nI_arr hin hn).2]; exact kk)
theorem aIs {k r n : Nat} (F : Fx E p s m args meth co cc nL own ret) (hI : Iv E s H locs u) (h : IsI k r n) {i x : Int32} (hin : vp_in i n) (hdg : decode cc pc = .ok (.iastore, 1))
    (kk : ∀ (H1 : Heap) (locs1 : List Loc), Iv E s H1 locs1 (up u.1 r i.toNatClampNeg x, u.2) → W p l e R s m args below meth co H1 locs1 cells slots Q (F0 m (pc + 1) ls rest)) : W p l e R s m args below meth co H locs cells slots Q (F0 m pc ls (.int x :: .int i :: .ref (eA E k) :: rest)) :=
  va_iast F.1 F.2.1 F.2.2.2.2.2.1.1 hI.1.1 hI.1.2 hI.2 k 0 (h E u).1 rfl hin hdg (fun H1 locs1 h1 h2 h3 => by
    rw [(h E u).2] at h1 h2
    exact kk H1 locs1 ⟨⟨h1, h2⟩, h3⟩)
theorem aIsN {k r n : Nat} (F : Fx E p s m args meth co cc nL own ret) (hI : Iv E s H locs u) (h : IsI k r n) {i : Nat} {x : Int32} (hin : i < n) (hn : n < 2 ^ 31) (hdg : decode cc pc = .ok (.iastore, 1))
    (kk : ∀ (H1 : Heap) (locs1 : List Loc), Iv E s H1 locs1 (up u.1 r i x, u.2) → W p l e R s m args below meth co H1 locs1 cells slots Q (F0 m (pc + 1) ls rest)) : W p l e R s m args below meth co H locs cells slots Q (F0 m pc ls (.int x :: .int (nI i) :: .ref (eA E k) :: rest)) :=
  aIs F hI h (nI_arr hin hn).1 hdg (fun H1 locs1 h1 => kk H1 locs1 (by rw [(nI_arr hin hn).2] at h1; exact h1))
theorem aIn {k r n : Nat} (F : Fx E p s m args meth co cc nL own ret) (hI : Iv E s H locs u) (h : IsI k r n) (hdg : decode cc pc = .ok (.arraylength, 1))
    (kk : W p l e R s m args below meth co H locs cells slots Q (F0 m (pc + 1) ls (.int (nI n) :: rest))) : W p l e R s m args below meth co H locs cells slots Q (F0 m pc ls (.ref (eA E k) :: rest)) :=
  va_alen F.1 F.2.1 F.2.2.2.2.2.1.1 hI.1.1 k 0 (h E u).1 rfl rfl hdg kk
theorem aLlN {k r : Nat} (F : Fx E p s m args meth co cc nL own ret) (hI : Iv E s H locs u) (h : IsL k r) {i : Nat} (hin : i < 16) (hdg : decode cc pc = .ok (.laload, 1))
    (kk : W p l e R s m args below meth co H locs cells slots Q (F0 m (pc + 1) ls (.long (u.2 r i) :: rest))) : W p l e R s m args below meth co H locs cells slots Q (F0 m pc ls (.int (nI i) :: .ref (eA E k) :: rest)) :=
  va_lald F.1 F.2.1 F.2.2.2.2.2.1.1 hI.1.1 k 2 (h E u).1 rfl (nI_arr hin (by decide)).1 hdg (by rw [(nI_arr hin (by decide)).2]; exact kk)
theorem aLsN {k r : Nat} (F : Fx E p s m args meth co cc nL own ret) (hI : Iv E s H locs u) (h : IsL k r) {i : Nat} {x : Int64} (hin : i < 16) (hdg : decode cc pc = .ok (.lastore, 1))
    (kk : ∀ (H1 : Heap) (locs1 : List Loc), Iv E s H1 locs1 (u.1, upG u.2 r i x) → W p l e R s m args below meth co H1 locs1 cells slots Q (F0 m (pc + 1) ls rest)) : W p l e R s m args below meth co H locs cells slots Q (F0 m pc ls (.long x :: .int (nI i) :: .ref (eA E k) :: rest)) :=
  va_last F.1 F.2.1 F.2.2.2.2.2.1.1 hI.1.1 hI.1.2 hI.2 k 2 (h E u).1 rfl (nI_arr hin (by decide)).1 hdg (fun H1 locs1 h1 h2 h3 => by
    rw [(nI_arr hin (by decide)).2, (h E u).2] at h1 h2
    exact kk H1 locs1 ⟨⟨h1, h2⟩, h3⟩)
theorem aLn {k r : Nat} (F : Fx E p s m args meth co cc nL own ret) (hI : Iv E s H locs u) (h : IsL k r) (hdg : decode cc pc = .ok (.arraylength, 1))
    (kk : W p l e R s m args below meth co H locs cells slots Q (F0 m (pc + 1) ls (.int (nI 16) :: rest))) : W p l e R s m args below meth co H locs cells slots Q (F0 m pc ls (.ref (eA E k) :: rest)) :=
  va_alen F.1 F.2.1 F.2.2.2.2.2.1.1 hI.1.1 k 2 (h E u).1 rfl rfl hdg kk
/-- the text's characters -/
theorem aCl (F : Fx E p s m args meth co cc nL own ret) (hI : Iv E s H locs u) {i : Nat} (hin : i < 80) (hdg : decode cc pc = .ok (.caload, 1))
    (kk : W p l e R s m args below meth co H locs cells slots Q (F0 m (pc + 1) ls (.int (u.1 6 i) :: rest))) : W p l e R s m args below meth co H locs cells slots Q (F0 m pc ls (.int (nI i) :: .ref (eA E 4) :: rest)) :=
  va_cald F.1 F.2.1 F.2.2.2.2.2.1.1 hI.1.1 4 1 (show (wl E u)[4]? = some (eA E 4, .inl (eT E 1, 80, .inl (u.1 6))) from rfl) rfl (nI_arr hin (by decide)).1 hdg (by rw [(nI_arr hin (by decide)).2]; exact kk)
theorem set_c (E : EV) (u : SS) (i : Nat) (x : Int32) : (wl E u).set 4 (eA E 4, .inl (eT E 1, 80, .inl (upd (u.1 6) i x))) = wl E (up u.1 6 i x, u.2) := rfl
theorem aCs (F : Fx E p s m args meth co cc nL own ret) (hI : Iv E s H locs u) {i : Nat} {x : Int32} (hx : vp_nar .char x = x) (hin : i < 80) (hdg : decode cc pc = .ok (.castore, 1))
    (kk : ∀ (H1 : Heap) (locs1 : List Loc), Iv E s H1 locs1 (up u.1 6 i x, u.2) → W p l e R s m args below meth co H1 locs1 cells slots Q (F0 m (pc + 1) ls rest)) : W p l e R s m args below meth co H locs cells slots Q (F0 m pc ls (.int x :: .int (nI i) :: .ref (eA E 4) :: rest)) :=
  va_cast F.1 F.2.1 F.2.2.2.2.2.1.1 hI.1.1 hI.1.2 hI.2 4 1 (show (wl E u)[4]? = some (eA E 4, .inl (eT E 1, 80, .inl (u.1 6))) from rfl) rfl (nI_arr hin (by decide)).1 hdg (fun H1 locs1 h1 h2 h3 => by
    rw [(nI_arr hin (by decide)).2, hx, set_c] at h1 h2
    exact kk H1 locs1 ⟨⟨h1, h2⟩, h3⟩)
theorem aCn (F : Fx E p s m args meth co cc nL own ret) (hI : Iv E s H locs u) (hdg : decode cc pc = .ok (.arraylength, 1))
    (kk : W p l e R s m args below meth co H locs cells slots Q (F0 m (pc + 1) ls (.int (nI 80) :: rest))) : W p l e R s m args below meth co H locs cells slots Q (F0 m pc ls (.ref (eA E 4) :: rest)) :=
  va_alen F.1 F.2.1 F.2.2.2.2.2.1.1 hI.1.1 4 1 (show (wl E u)[4]? = some (eA E 4, .inl (eT E 1, 80, .inl (u.1 6))) from rfl) rfl rfl hdg kk
/-- the states' row, the streams' row of rows -/
theorem aSl (F : Fx E p s m args meth co cc nL own ret) (hI : Iv E s H locs u) {i : Nat} (hin : i < 4) (hdg : decode cc pc = .ok (.aaload, 1))
    (kk : W p l e R s m args below meth co H locs cells slots Q (F0 m (pc + 1) ls (.ref (eA E (19 + 3 * i)) :: rest))) : W p l e R s m args below meth co H locs cells slots Q (F0 m pc ls (.int (nI i) :: .ref (eA E 2) :: rest)) :=
  va_aldq F.1 F.2.1 F.2.2.2.2.2.1.1 hI.1.1 2 3 (show (wl E u)[2]? = some (eA E 2, .inl (eT E 3, 4, .inr (.inr (.inr (.inr (fun i => some (eA E (19 + 3 * i)))))))) from rfl) rfl (nI_arr hin (by decide)).1 hdg (by rw [(nI_arr hin (by decide)).2]; exact kk)
theorem aSn (F : Fx E p s m args meth co cc nL own ret) (hI : Iv E s H locs u) (hdg : decode cc pc = .ok (.arraylength, 1))
    (kk : W p l e R s m args below meth co H locs cells slots Q (F0 m (pc + 1) ls (.int (nI 4) :: rest))) : W p l e R s m args below meth co H locs cells slots Q (F0 m pc ls (.ref (eA E 2) :: rest)) :=
  va_alen F.1 F.2.1 F.2.2.2.2.2.1.1 hI.1.1 2 3 (show (wl E u)[2]? = some (eA E 2, .inl (eT E 3, 4, .inr (.inr (.inr (.inr (fun i => some (eA E (19 + 3 * i)))))))) from rfl) rfl rfl hdg kk
theorem aRn (F : Fx E p s m args meth co cc nL own ret) (hI : Iv E s H locs u) (hdg : decode cc pc = .ok (.arraylength, 1))
    (kk : W p l e R s m args below meth co H locs cells slots Q (F0 m (pc + 1) ls (.int (nI 16) :: rest))) : W p l e R s m args below meth co H locs cells slots Q (F0 m pc ls (.ref (eA E 31) :: rest)) :=
  va_alen F.1 F.2.1 F.2.2.2.2.2.1.1 hI.1.1 31 4 (show (wl E u)[31]? = some (eA E 31, .inl (eT E 4, 16, .inr (.inr (.inr (.inr (fun i => some (eA E (32 + i)))))))) from rfl) rfl rfl hdg kk
theorem aRl (F : Fx E p s m args meth co cc nL own ret) (hI : Iv E s H locs u) {i : Nat} (hin : i < 16) (hdg : decode cc pc = .ok (.aaload, 1))
    (kk : W p l e R s m args below meth co H locs cells slots Q (F0 m (pc + 1) ls (.ref (eA E (32 + i)) :: rest))) : W p l e R s m args below meth co H locs cells slots Q (F0 m pc ls (.int (nI i) :: .ref (eA E 31) :: rest)) := by
  have hv : vp_in (nI i) 16 ∧ (nI i).toNatClampNeg = i := nI_arr hin (by decide)
  exact W.aald (v := .ref (eA E (32 + i))) (ty := .array .long) F.1 F.2.1 (hI.1.1 31 _ (show (wl E u)[31]? = some (eA E 31, .inl (eT E 4, 16, .inr (.inr (.inr (.inr (fun i => some (eA E (32 + i)))))))) from rfl)) ((F.2.2.2.2.2.1.1.2 4 _ rfl).1 16 (fun j => va_rf (some (eA E (32 + j))))) rfl (fun q => by cases q) (by show ¬ (nI i < 0 ∨ (arrV _ _ _).slots.size ≤ _); rw [arrV_size]; exact hv.1) (by show (arrV _ _ _).slots[_]? = _; rw [hv.2, arrV_read _ _ hin]; rfl) rfl rfl hdg kk
end WR
end
section
def LkB (own : String) (idx : Nat) (y : MethodName) (cc : ByteArray) (maxL : Nat) (ret : Option FieldType) (n : Nat) : Prop :=
  (Cond.methodLink own idx y ∈ gW ∨ ∃ host, Cond.methodLinkNest own idx y host ∈ nestL) ∧ Cond.initialized y.cls ∈ gW ∧ Cond.code y cc maxL ret ∈ gW ∧ y.cls ≠ "java/lang/invoke/MethodHandle" ∧ y.cls ≠ "java/lang/invoke/VarHandle" ∧ (parseMethodDescriptor y.desc).map (fun d => d.parameters.length) = some n
def LkV (own : String) (idx : Nat) (C : String) (y : MethodName) (cc : ByteArray) (maxL : Nat) (ret : Option FieldType) (n : Nat) : Prop := LkB own idx y cc maxL ret n ∧ Cond.instanceMethod y ∈ gW ∧ Cond.selects C y y ∈ gW
def LkS (own : String) (idx : Nat) (y : MethodName) (cc : ByteArray) (maxL : Nat) (ret : Option FieldType) (n : Nat) : Prop := LkB own idx y cc maxL ret n ∧ Cond.static y ∈ gW
theorem L_X0_9 : FLk RX0 9 "ShareStreams$Bench" "length" "I" := Or.inl (gW_t (List.mem_of_getElem? (i := 24) (by decide +kernel)) (by decide +kernel))
theorem L_X0_15 : FLk RX0 15 "ShareStreams$Bench" "size" "I" := Or.inl (gW_t (List.mem_of_getElem? (i := 26) (by decide +kernel)) (by decide +kernel))
theorem L_X0_18 : FLk RX0 18 "ShareStreams$Bench" "kinds" "[I" := Or.inl (gW_t (List.mem_of_getElem? (i := 29) (by decide +kernel)) (by decide +kernel))
theorem L_X0_22 : FLk RX0 22 "ShareStreams$Bench" "numbers" "[I" := Or.inl (gW_t (List.mem_of_getElem? (i := 30) (by decide +kernel)) (by decide +kernel))
theorem M_X0_25 : LkS RX0 25 yX5_elementAt cX5_elementAt 2 (some .int) 2 := ⟨⟨Or.inr ⟨"ShareStreams", by decide +kernel⟩, gW_t (List.mem_of_getElem? (i := 1) (by decide +kernel)) (by decide +kernel), gW_t (List.mem_of_getElem? (i := 147) (by decide +kernel)) (by decide +kernel), by decide +kernel, by decide +kernel, by decide +kernel⟩, gW_t (List.mem_of_getElem? (i := 146) (by decide +kernel)) (by decide +kernel)⟩
theorem M_X0_29 : LkS RX0 29 yX5_setElement cX5_setElement 3 none 3 := ⟨⟨Or.inr ⟨"ShareStreams", by decide +kernel⟩, gW_t (List.mem_of_getElem? (i := 1) (by decide +kernel)) (by decide +kernel), gW_t (List.mem_of_getElem? (i := 184) (by decide +kernel)) (by decide +kernel), by decide +kernel, by decide +kernel, by decide +kernel⟩, gW_t (List.mem_of_getElem? (i := 183) (by decide +kernel)) (by decide +kernel)⟩
theorem M_X0_33 : LkV RX0 33 RX0 yX0_kindOf cX0_kindOf 2 (some .int) 1 := ⟨⟨Or.inl (gW_t (List.mem_of_getElem? (i := 141) (by decide +kernel)) (by decide +kernel)), gW_t (List.mem_of_getElem? (i := 2) (by decide +kernel)) (by decide +kernel), gW_t (List.mem_of_getElem? (i := 144) (by decide +kernel)) (by decide +kernel), by decide +kernel, by decide +kernel, by decide +kernel⟩, gW_t (List.mem_of_getElem? (i := 143) (by decide +kernel)) (by decide +kernel), gW_of (List.mem_append_left _ (by decide +kernel)) (by decide +kernel)⟩
theorem M_X0_37 : LkV RX0 37 RX0 yX0_setNumber cX0_setNumber 4 none 3 := ⟨⟨Or.inl (gW_t (List.mem_of_getElem? (i := 316) (by decide +kernel)) (by decide +kernel)), gW_t (List.mem_of_getElem? (i := 2) (by decide +kernel)) (by decide +kernel), gW_t (List.mem_of_getElem? (i := 319) (by decide +kernel)) (by decide +kernel), by decide +kernel, by decide +kernel, by decide +kernel⟩, gW_t (List.mem_of_getElem? (i := 318) (by decide +kernel)) (by decide +kernel), gW_of (List.mem_append_left _ (by decide +kernel)) (by decide +kernel)⟩
theorem M_X0_41 : LkV RX0 41 RX0 yX0_numberOf cX0_numberOf 3 (some .int) 2 := ⟨⟨Or.inl (gW_t (List.mem_of_getElem? (i := 310) (by decide +kernel)) (by decide +kernel)), gW_t (List.mem_of_getElem? (i := 2) (by decide +kernel)) (by decide +kernel), gW_t (List.mem_of_getElem? (i := 167) (by decide +kernel)) (by decide +kernel), by decide +kernel, by decide +kernel, by decide +kernel⟩, gW_t (List.mem_of_getElem? (i := 166) (by decide +kernel)) (by decide +kernel), gW_of (List.mem_append_left _ (by decide +kernel)) (by decide +kernel)⟩
theorem M_X0_45 : LkV RX0 45 RX0 yX0_add cX0_add 5 none 4 := ⟨⟨Or.inl (gW_t (List.mem_of_getElem? (i := 311) (by decide +kernel)) (by decide +kernel)), gW_t (List.mem_of_getElem? (i := 2) (by decide +kernel)) (by decide +kernel), gW_t (List.mem_of_getElem? (i := 314) (by decide +kernel)) (by decide +kernel), by decide +kernel, by decide +kernel, by decide +kernel⟩, gW_t (List.mem_of_getElem? (i := 313) (by decide +kernel)) (by decide +kernel), gW_of (List.mem_append_left _ (by decide +kernel)) (by decide +kernel)⟩
theorem M_X0_49 : LkV RX0 49 RX0 yX0_addAll cX0_addAll 3 none 1 := ⟨⟨Or.inl (gW_t (List.mem_of_getElem? (i := 306) (by decide +kernel)) (by decide +kernel)), gW_t (List.mem_of_getElem? (i := 2) (by decide +kernel)) (by decide +kernel), gW_t (List.mem_of_getElem? (i := 309) (by decide +kernel)) (by decide +kernel), by decide +kernel, by decide +kernel, by decide +kernel⟩, gW_t (List.mem_of_getElem? (i := 308) (by decide +kernel)) (by decide +kernel), gW_of (List.mem_append_left _ (by decide +kernel)) (by decide +kernel)⟩
theorem L_X1_9 : FLk RX1 9 "ShareStreams$CircuitText" "characters" "[C" := Or.inl (gW_t (List.mem_of_getElem? (i := 67) (by decide +kernel)) (by decide +kernel))
theorem L_X1_15 : FLk RX1 15 "ShareStreams$CircuitText" "size" "I" := Or.inl (gW_t (List.mem_of_getElem? (i := 68) (by decide +kernel)) (by decide +kernel))
theorem L_X1_19 : FLk RX1 19 "ShareStreams$CircuitText" "place" "I" := Or.inl (gW_t (List.mem_of_getElem? (i := 70) (by decide +kernel)) (by decide +kernel))
theorem L_X2_9 : FLk RX2 9 "ShareStreams$Figures" "exactShares" "[I" := Or.inl (gW_t (List.mem_of_getElem? (i := 85) (by decide +kernel)) (by decide +kernel))
theorem L_X2_15 : FLk RX2 15 "ShareStreams$Figures" "depths" "[I" := Or.inl (gW_t (List.mem_of_getElem? (i := 86) (by decide +kernel)) (by decide +kernel))
theorem L_X2_18 : FLk RX2 18 "ShareStreams$Figures" "origins" "[I" := Or.inl (gW_t (List.mem_of_getElem? (i := 87) (by decide +kernel)) (by decide +kernel))
theorem L_X2_21 : FLk RX2 21 "ShareStreams$Bench" "size" "I" := Or.inr ⟨"ShareStreams", by decide +kernel⟩
theorem M_X2_27 : LkV RX2 27 RX2 yX2_exactShareIn cX2_exactShareIn 6 (some .int) 2 := ⟨⟨Or.inl (gW_t (List.mem_of_getElem? (i := 160) (by decide +kernel)) (by decide +kernel)), gW_t (List.mem_of_getElem? (i := 5) (by decide +kernel)) (by decide +kernel), gW_t (List.mem_of_getElem? (i := 163) (by decide +kernel)) (by decide +kernel), by decide +kernel, by decide +kernel, by decide +kernel⟩, gW_t (List.mem_of_getElem? (i := 162) (by decide +kernel)) (by decide +kernel), gW_of (List.mem_append_left _ (by decide +kernel)) (by decide +kernel)⟩
theorem M_X2_31 : LkS RX2 31 yX5_setElement cX5_setElement 3 none 3 := ⟨⟨Or.inr ⟨"ShareStreams", by decide +kernel⟩, gW_t (List.mem_of_getElem? (i := 1) (by decide +kernel)) (by decide +kernel), gW_t (List.mem_of_getElem? (i := 184) (by decide +kernel)) (by decide +kernel), by decide +kernel, by decide +kernel, by decide +kernel⟩, gW_t (List.mem_of_getElem? (i := 183) (by decide +kernel)) (by decide +kernel)⟩
theorem M_X2_35 : LkV RX2 35 RX2 yX2_depthIn cX2_depthIn 6 (some .int) 2 := ⟨⟨Or.inl (gW_t (List.mem_of_getElem? (i := 185) (by decide +kernel)) (by decide +kernel)), gW_t (List.mem_of_getElem? (i := 5) (by decide +kernel)) (by decide +kernel), gW_t (List.mem_of_getElem? (i := 188) (by decide +kernel)) (by decide +kernel), by decide +kernel, by decide +kernel, by decide +kernel⟩, gW_t (List.mem_of_getElem? (i := 187) (by decide +kernel)) (by decide +kernel), gW_of (List.mem_append_left _ (by decide +kernel)) (by decide +kernel)⟩
theorem M_X2_38 : LkV RX2 38 RX2 yX2_originsIn cX2_originsIn 6 (some .int) 2 := ⟨⟨Or.inl (gW_t (List.mem_of_getElem? (i := 202) (by decide +kernel)) (by decide +kernel)), gW_t (List.mem_of_getElem? (i := 5) (by decide +kernel)) (by decide +kernel), gW_t (List.mem_of_getElem? (i := 205) (by decide +kernel)) (by decide +kernel), by decide +kernel, by decide +kernel, by decide +kernel⟩, gW_t (List.mem_of_getElem? (i := 204) (by decide +kernel)) (by decide +kernel), gW_of (List.mem_append_left _ (by decide +kernel)) (by decide +kernel)⟩
theorem M_X2_41 : LkS RX2 41 yX5_elementAt cX5_elementAt 2 (some .int) 2 := ⟨⟨Or.inr ⟨"ShareStreams", by decide +kernel⟩, gW_t (List.mem_of_getElem? (i := 1) (by decide +kernel)) (by decide +kernel), gW_t (List.mem_of_getElem? (i := 147) (by decide +kernel)) (by decide +kernel), by decide +kernel, by decide +kernel, by decide +kernel⟩, gW_t (List.mem_of_getElem? (i := 146) (by decide +kernel)) (by decide +kernel)⟩
theorem M_X2_45 : LkS RX2 45 yJ6_bitCount_0f7a4 cJ6_bitCount_0f7a4 1 (some .int) 1 := ⟨⟨Or.inl (gW_t (List.mem_of_getElem? (i := 378) (by decide +kernel)) (by decide +kernel)), gW_t (List.mem_of_getElem? (i := 9) (by decide +kernel)) (by decide +kernel), gW_t (List.mem_of_getElem? (i := 380) (by decide +kernel)) (by decide +kernel), by decide +kernel, by decide +kernel, by decide +kernel⟩, gW_t (List.mem_of_getElem? (i := 379) (by decide +kernel)) (by decide +kernel)⟩
theorem M_X2_51 : LkV RX2 51 RX2 yX2_depthOf cX2_depthOf 2 (some .int) 1 := ⟨⟨Or.inl (gW_t (List.mem_of_getElem? (i := 195) (by decide +kernel)) (by decide +kernel)), gW_t (List.mem_of_getElem? (i := 5) (by decide +kernel)) (by decide +kernel), gW_t (List.mem_of_getElem? (i := 198) (by decide +kernel)) (by decide +kernel), by decide +kernel, by decide +kernel, by decide +kernel⟩, gW_t (List.mem_of_getElem? (i := 197) (by decide +kernel)) (by decide +kernel), gW_of (List.mem_append_left _ (by decide +kernel)) (by decide +kernel)⟩
theorem M_X2_54 : Cond.methodLink RX2 54 Lib.Math.max.name ∈ gW := gW_t (List.mem_of_getElem? (i := 199) (by decide +kernel)) (by decide +kernel)
theorem M_X2_60 : LkV RX2 60 RX0 yX0_numberOf cX0_numberOf 3 (some .int) 2 := ⟨⟨Or.inr ⟨"ShareStreams", by decide +kernel⟩, gW_t (List.mem_of_getElem? (i := 2) (by decide +kernel)) (by decide +kernel), gW_t (List.mem_of_getElem? (i := 167) (by decide +kernel)) (by decide +kernel), by decide +kernel, by decide +kernel, by decide +kernel⟩, gW_t (List.mem_of_getElem? (i := 166) (by decide +kernel)) (by decide +kernel), gW_of (List.mem_append_left _ (by decide +kernel)) (by decide +kernel)⟩
theorem M_X2_63 : LkV RX2 63 RX2 yX2_exactShareOf cX2_exactShareOf 2 (some .int) 1 := ⟨⟨Or.inl (gW_t (List.mem_of_getElem? (i := 168) (by decide +kernel)) (by decide +kernel)), gW_t (List.mem_of_getElem? (i := 5) (by decide +kernel)) (by decide +kernel), gW_t (List.mem_of_getElem? (i := 171) (by decide +kernel)) (by decide +kernel), by decide +kernel, by decide +kernel, by decide +kernel⟩, gW_t (List.mem_of_getElem? (i := 170) (by decide +kernel)) (by decide +kernel), gW_of (List.mem_append_left _ (by decide +kernel)) (by decide +kernel)⟩
theorem M_X2_66 : LkV RX2 66 RX0 yX0_kindOf cX0_kindOf 2 (some .int) 1 := ⟨⟨Or.inr ⟨"ShareStreams", by decide +kernel⟩, gW_t (List.mem_of_getElem? (i := 2) (by decide +kernel)) (by decide +kernel), gW_t (List.mem_of_getElem? (i := 144) (by decide +kernel)) (by decide +kernel), by decide +kernel, by decide +kernel, by decide +kernel⟩, gW_t (List.mem_of_getElem? (i := 143) (by decide +kernel)) (by decide +kernel), gW_of (List.mem_append_left _ (by decide +kernel)) (by decide +kernel)⟩
theorem M_X2_69 : LkS RX2 69 yX2_productOf cX2_productOf 4 (some .int) 2 := ⟨⟨Or.inl (gW_t (List.mem_of_getElem? (i := 174) (by decide +kernel)) (by decide +kernel)), gW_t (List.mem_of_getElem? (i := 5) (by decide +kernel)) (by decide +kernel), gW_t (List.mem_of_getElem? (i := 176) (by decide +kernel)) (by decide +kernel), by decide +kernel, by decide +kernel, by decide +kernel⟩, gW_t (List.mem_of_getElem? (i := 175) (by decide +kernel)) (by decide +kernel)⟩
theorem M_X2_73 : LkS RX2 73 yX2_mixOf cX2_mixOf 6 (some .int) 3 := ⟨⟨Or.inl (gW_t (List.mem_of_getElem? (i := 178) (by decide +kernel)) (by decide +kernel)), gW_t (List.mem_of_getElem? (i := 5) (by decide +kernel)) (by decide +kernel), gW_t (List.mem_of_getElem? (i := 180) (by decide +kernel)) (by decide +kernel), by decide +kernel, by decide +kernel, by decide +kernel⟩, gW_t (List.mem_of_getElem? (i := 179) (by decide +kernel)) (by decide +kernel)⟩
theorem K_X2_77 : Cond.constant RX2 77 (65536) ∈ gW := gW_t (List.mem_of_getElem? (i := 181) (by decide +kernel)) (by decide +kernel)
theorem K_X2_78 : Cond.constantLong RX2 78 (65536) ∈ gW := gW_t (List.mem_of_getElem? (i := 177) (by decide +kernel)) (by decide +kernel)
theorem M_X2_80 : LkS RX2 80 yX5_linesOfKind cX5_linesOfKind 1 (some .int) 1 := ⟨⟨Or.inr ⟨"ShareStreams", by decide +kernel⟩, gW_t (List.mem_of_getElem? (i := 1) (by decide +kernel)) (by decide +kernel), gW_t (List.mem_of_getElem? (i := 191) (by decide +kernel)) (by decide +kernel), by decide +kernel, by decide +kernel, by decide +kernel⟩, gW_t (List.mem_of_getElem? (i := 190) (by decide +kernel)) (by decide +kernel)⟩
theorem L_X3_11 : FLk RX3 11 "ShareStreams$History" "states" "[LShareStreams$Bench;" := Or.inl (gW_t (List.mem_of_getElem? (i := 50) (by decide +kernel)) (by decide +kernel))
theorem L_X3_17 : FLk RX3 17 "ShareStreams$History" "oldest" "I" := Or.inl (gW_t (List.mem_of_getElem? (i := 51) (by decide +kernel)) (by decide +kernel))
theorem L_X3_21 : FLk RX3 21 "ShareStreams$History" "size" "I" := Or.inl (gW_t (List.mem_of_getElem? (i := 52) (by decide +kernel)) (by decide +kernel))
theorem M_X3_25 : LkV RX3 25 RX3 yX3_stateAt cX3_stateAt 3 (some (.object "ShareStreams$Bench")) 1 := ⟨⟨Or.inl (gW_t (List.mem_of_getElem? (i := 295) (by decide +kernel)) (by decide +kernel)), gW_t (List.mem_of_getElem? (i := 3) (by decide +kernel)) (by decide +kernel), gW_t (List.mem_of_getElem? (i := 298) (by decide +kernel)) (by decide +kernel), by decide +kernel, by decide +kernel, by decide +kernel⟩, gW_t (List.mem_of_getElem? (i := 297) (by decide +kernel)) (by decide +kernel), gW_of (List.mem_append_left _ (by decide +kernel)) (by decide +kernel)⟩
theorem M_X3_29 : LkV RX3 29 RX0 yX0_copyFrom cX0_copyFrom 2 none 1 := ⟨⟨Or.inr ⟨"ShareStreams", by decide +kernel⟩, gW_t (List.mem_of_getElem? (i := 2) (by decide +kernel)) (by decide +kernel), gW_t (List.mem_of_getElem? (i := 305) (by decide +kernel)) (by decide +kernel), by decide +kernel, by decide +kernel, by decide +kernel⟩, gW_t (List.mem_of_getElem? (i := 304) (by decide +kernel)) (by decide +kernel), gW_of (List.mem_append_left _ (by decide +kernel)) (by decide +kernel)⟩
theorem M_X3_33 : LkS RX3 33 yJ9_floorMod_7cf53 cJ9_floorMod_7cf53 3 (some .int) 2 := ⟨⟨Or.inl (gW_t (List.mem_of_getElem? (i := 299) (by decide +kernel)) (by decide +kernel)), gW_t (List.mem_of_getElem? (i := 7) (by decide +kernel)) (by decide +kernel), gW_t (List.mem_of_getElem? (i := 301) (by decide +kernel)) (by decide +kernel), by decide +kernel, by decide +kernel, by decide +kernel⟩, gW_t (List.mem_of_getElem? (i := 300) (by decide +kernel)) (by decide +kernel)⟩
theorem L_X4_11 : FLk RX4 11 "ShareStreams$Streams" "rows" "[[J" := Or.inl (gW_t (List.mem_of_getElem? (i := 103) (by decide +kernel)) (by decide +kernel))
theorem M_X4_16 : LkV RX4 16 RX4 yX4_fillRow cX4_fillRow 6 none 3 := ⟨⟨Or.inl (gW_t (List.mem_of_getElem? (i := 210) (by decide +kernel)) (by decide +kernel)), gW_t (List.mem_of_getElem? (i := 6) (by decide +kernel)) (by decide +kernel), gW_t (List.mem_of_getElem? (i := 213) (by decide +kernel)) (by decide +kernel), by decide +kernel, by decide +kernel, by decide +kernel⟩, gW_t (List.mem_of_getElem? (i := 212) (by decide +kernel)) (by decide +kernel), gW_of (List.mem_append_left _ (by decide +kernel)) (by decide +kernel)⟩
theorem M_X4_20 : LkV RX4 20 RX0 yX0_kindOf cX0_kindOf 2 (some .int) 1 := ⟨⟨Or.inr ⟨"ShareStreams", by decide +kernel⟩, gW_t (List.mem_of_getElem? (i := 2) (by decide +kernel)) (by decide +kernel), gW_t (List.mem_of_getElem? (i := 144) (by decide +kernel)) (by decide +kernel), by decide +kernel, by decide +kernel, by decide +kernel⟩, gW_t (List.mem_of_getElem? (i := 143) (by decide +kernel)) (by decide +kernel), gW_of (List.mem_append_left _ (by decide +kernel)) (by decide +kernel)⟩
theorem M_X4_26 : LkV RX4 26 RX0 yX0_numberOf cX0_numberOf 3 (some .int) 2 := ⟨⟨Or.inr ⟨"ShareStreams", by decide +kernel⟩, gW_t (List.mem_of_getElem? (i := 2) (by decide +kernel)) (by decide +kernel), gW_t (List.mem_of_getElem? (i := 167) (by decide +kernel)) (by decide +kernel), by decide +kernel, by decide +kernel, by decide +kernel⟩, gW_t (List.mem_of_getElem? (i := 166) (by decide +kernel)) (by decide +kernel), gW_of (List.mem_append_left _ (by decide +kernel)) (by decide +kernel)⟩
theorem M_X4_30 : LkV RX4 30 RX4 yX4_fillSource cX4_fillSource 10 none 4 := ⟨⟨Or.inl (gW_t (List.mem_of_getElem? (i := 216) (by decide +kernel)) (by decide +kernel)), gW_t (List.mem_of_getElem? (i := 6) (by decide +kernel)) (by decide +kernel), gW_t (List.mem_of_getElem? (i := 219) (by decide +kernel)) (by decide +kernel), by decide +kernel, by decide +kernel, by decide +kernel⟩, gW_t (List.mem_of_getElem? (i := 218) (by decide +kernel)) (by decide +kernel), gW_of (List.mem_append_left _ (by decide +kernel)) (by decide +kernel)⟩
theorem M_X4_34 : LkV RX4 34 RX4 yX4_madeWord cX4_madeWord 10 (some .long) 3 := ⟨⟨Or.inl (gW_t (List.mem_of_getElem? (i := 227) (by decide +kernel)) (by decide +kernel)), gW_t (List.mem_of_getElem? (i := 6) (by decide +kernel)) (by decide +kernel), gW_t (List.mem_of_getElem? (i := 230) (by decide +kernel)) (by decide +kernel), by decide +kernel, by decide +kernel, by decide +kernel⟩, gW_t (List.mem_of_getElem? (i := 229) (by decide +kernel)) (by decide +kernel), gW_of (List.mem_append_left _ (by decide +kernel)) (by decide +kernel)⟩
theorem M_X4_38 : LkV RX4 38 RX4 yX4_setWord cX4_setWord 6 none 3 := ⟨⟨Or.inl (gW_t (List.mem_of_getElem? (i := 223) (by decide +kernel)) (by decide +kernel)), gW_t (List.mem_of_getElem? (i := 6) (by decide +kernel)) (by decide +kernel), gW_t (List.mem_of_getElem? (i := 226) (by decide +kernel)) (by decide +kernel), by decide +kernel, by decide +kernel, by decide +kernel⟩, gW_t (List.mem_of_getElem? (i := 225) (by decide +kernel)) (by decide +kernel), gW_of (List.mem_append_left _ (by decide +kernel)) (by decide +kernel)⟩
theorem M_X4_42 : LkS RX4 42 yX4_nextRegister cX4_nextRegister 2 (some .int) 1 := ⟨⟨Or.inl (gW_t (List.mem_of_getElem? (i := 220) (by decide +kernel)) (by decide +kernel)), gW_t (List.mem_of_getElem? (i := 6) (by decide +kernel)) (by decide +kernel), gW_t (List.mem_of_getElem? (i := 222) (by decide +kernel)) (by decide +kernel), by decide +kernel, by decide +kernel, by decide +kernel⟩, gW_t (List.mem_of_getElem? (i := 221) (by decide +kernel)) (by decide +kernel)⟩
theorem M_X4_45 : LkV RX4 45 RX4 yX4_wordAt cX4_wordAt 4 (some .long) 2 := ⟨⟨Or.inl (gW_t (List.mem_of_getElem? (i := 231) (by decide +kernel)) (by decide +kernel)), gW_t (List.mem_of_getElem? (i := 6) (by decide +kernel)) (by decide +kernel), gW_t (List.mem_of_getElem? (i := 234) (by decide +kernel)) (by decide +kernel), by decide +kernel, by decide +kernel, by decide +kernel⟩, gW_t (List.mem_of_getElem? (i := 233) (by decide +kernel)) (by decide +kernel), gW_of (List.mem_append_left _ (by decide +kernel)) (by decide +kernel)⟩
theorem K_X4_49 : Cond.constantLong RX4 49 (-1) ∈ gW := gW_t (List.mem_of_getElem? (i := 235) (by decide +kernel)) (by decide +kernel)
theorem M_X4_51 : LkV RX4 51 RX4 yX4_onesInBoth cX4_onesInBoth 8 (some .int) 3 := ⟨⟨Or.inl (gW_t (List.mem_of_getElem? (i := 244) (by decide +kernel)) (by decide +kernel)), gW_t (List.mem_of_getElem? (i := 6) (by decide +kernel)) (by decide +kernel), gW_t (List.mem_of_getElem? (i := 247) (by decide +kernel)) (by decide +kernel), by decide +kernel, by decide +kernel, by decide +kernel⟩, gW_t (List.mem_of_getElem? (i := 246) (by decide +kernel)) (by decide +kernel), gW_of (List.mem_append_left _ (by decide +kernel)) (by decide +kernel)⟩
theorem M_X4_55 : LkS RX4 55 yJ13_bitCount_95d88 cJ13_bitCount_95d88 2 (some .int) 1 := ⟨⟨Or.inl (gW_t (List.mem_of_getElem? (i := 248) (by decide +kernel)) (by decide +kernel)), gW_t (List.mem_of_getElem? (i := 8) (by decide +kernel)) (by decide +kernel), gW_t (List.mem_of_getElem? (i := 250) (by decide +kernel)) (by decide +kernel), by decide +kernel, by decide +kernel, by decide +kernel⟩, gW_t (List.mem_of_getElem? (i := 249) (by decide +kernel)) (by decide +kernel)⟩
theorem L_X5_10 : FLk RX5 10 "ShareStreams" "bench" "LShareStreams$Bench;" := Or.inl (gW_t (List.mem_of_getElem? (i := 108) (by decide +kernel)) (by decide +kernel))
theorem L_X5_16 : FLk RX5 16 "ShareStreams" "snapshot" "LShareStreams$Bench;" := Or.inl (gW_t (List.mem_of_getElem? (i := 109) (by decide +kernel)) (by decide +kernel))
theorem L_X5_19 : FLk RX5 19 "ShareStreams" "hasSnapshot" "Z" := Or.inl (gW_t (List.mem_of_getElem? (i := 110) (by decide +kernel)) (by decide +kernel))
theorem L_X5_23 : FLk RX5 23 "ShareStreams" "spare" "LShareStreams$Bench;" := Or.inl (gW_t (List.mem_of_getElem? (i := 111) (by decide +kernel)) (by decide +kernel))
theorem L_X5_29 : FLk RX5 29 "ShareStreams" "history" "LShareStreams$History;" := Or.inl (gW_t (List.mem_of_getElem? (i := 112) (by decide +kernel)) (by decide +kernel))
theorem L_X5_36 : FLk RX5 36 "ShareStreams" "text" "LShareStreams$CircuitText;" := Or.inl (gW_t (List.mem_of_getElem? (i := 113) (by decide +kernel)) (by decide +kernel))
theorem L_X5_43 : FLk RX5 43 "ShareStreams" "figures" "LShareStreams$Figures;" := Or.inl (gW_t (List.mem_of_getElem? (i := 114) (by decide +kernel)) (by decide +kernel))
theorem L_X5_50 : FLk RX5 50 "ShareStreams" "streams" "LShareStreams$Streams;" := Or.inl (gW_t (List.mem_of_getElem? (i := 115) (by decide +kernel)) (by decide +kernel))
theorem M_X5_54 : LkS RX5 54 yX5_isShareAndSeed cX5_isShareAndSeed 2 (some .boolean) 2 := ⟨⟨Or.inl (gW_t (List.mem_of_getElem? (i := 328) (by decide +kernel)) (by decide +kernel)), gW_t (List.mem_of_getElem? (i := 1) (by decide +kernel)) (by decide +kernel), gW_t (List.mem_of_getElem? (i := 330) (by decide +kernel)) (by decide +kernel), by decide +kernel, by decide +kernel, by decide +kernel⟩, gW_t (List.mem_of_getElem? (i := 329) (by decide +kernel)) (by decide +kernel)⟩
theorem K_X5_58 : Cond.constant RX5 58 (-100000002) ∈ gW := gW_t (List.mem_of_getElem? (i := 275) (by decide +kernel)) (by decide +kernel)
theorem M_X5_59 : LkV RX5 59 RX5 yX5_addLine cX5_addLine 5 (some .int) 4 := ⟨⟨Or.inl (gW_t (List.mem_of_getElem? (i := 334) (by decide +kernel)) (by decide +kernel)), gW_t (List.mem_of_getElem? (i := 1) (by decide +kernel)) (by decide +kernel), gW_t (List.mem_of_getElem? (i := 337) (by decide +kernel)) (by decide +kernel), by decide +kernel, by decide +kernel, by decide +kernel⟩, gW_t (List.mem_of_getElem? (i := 336) (by decide +kernel)) (by decide +kernel), gW_of (List.mem_append_left _ (by decide +kernel)) (by decide +kernel)⟩
theorem M_X5_63 : LkV RX5 63 RX0 yX0_has cX0_has 2 (some .boolean) 1 := ⟨⟨Or.inr ⟨"ShareStreams", by decide +kernel⟩, gW_t (List.mem_of_getElem? (i := 2) (by decide +kernel)) (by decide +kernel), gW_t (List.mem_of_getElem? (i := 347) (by decide +kernel)) (by decide +kernel), by decide +kernel, by decide +kernel, by decide +kernel⟩, gW_t (List.mem_of_getElem? (i := 346) (by decide +kernel)) (by decide +kernel), gW_of (List.mem_append_left _ (by decide +kernel)) (by decide +kernel)⟩
theorem K_X5_67 : Cond.constant RX5 67 (-100000001) ∈ gW := gW_t (List.mem_of_getElem? (i := 348) (by decide +kernel)) (by decide +kernel)
theorem M_X5_68 : LkS RX5 68 yX5_isWithin cX5_isWithin 3 (some .boolean) 3 := ⟨⟨Or.inl (gW_t (List.mem_of_getElem? (i := 331) (by decide +kernel)) (by decide +kernel)), gW_t (List.mem_of_getElem? (i := 1) (by decide +kernel)) (by decide +kernel), gW_t (List.mem_of_getElem? (i := 333) (by decide +kernel)) (by decide +kernel), by decide +kernel, by decide +kernel, by decide +kernel⟩, gW_t (List.mem_of_getElem? (i := 332) (by decide +kernel)) (by decide +kernel)⟩
theorem M_X5_72 : LkV RX5 72 RX0 yX0_kindOf cX0_kindOf 2 (some .int) 1 := ⟨⟨Or.inr ⟨"ShareStreams", by decide +kernel⟩, gW_t (List.mem_of_getElem? (i := 2) (by decide +kernel)) (by decide +kernel), gW_t (List.mem_of_getElem? (i := 144) (by decide +kernel)) (by decide +kernel), by decide +kernel, by decide +kernel, by decide +kernel⟩, gW_t (List.mem_of_getElem? (i := 143) (by decide +kernel)) (by decide +kernel), gW_of (List.mem_append_left _ (by decide +kernel)) (by decide +kernel)⟩
theorem K_X5_76 : Cond.constant RX5 76 (-100000004) ∈ gW := gW_t (List.mem_of_getElem? (i := 404) (by decide +kernel)) (by decide +kernel)
theorem M_X5_77 : LkV RX5 77 RX0 yX0_numberOf cX0_numberOf 3 (some .int) 2 := ⟨⟨Or.inr ⟨"ShareStreams", by decide +kernel⟩, gW_t (List.mem_of_getElem? (i := 2) (by decide +kernel)) (by decide +kernel), gW_t (List.mem_of_getElem? (i := 167) (by decide +kernel)) (by decide +kernel), by decide +kernel, by decide +kernel, by decide +kernel⟩, gW_t (List.mem_of_getElem? (i := 166) (by decide +kernel)) (by decide +kernel), gW_of (List.mem_append_left _ (by decide +kernel)) (by decide +kernel)⟩
theorem K_X5_81 : Cond.constant RX5 81 (-100000005) ∈ gW := gW_t (List.mem_of_getElem? (i := 270) (by decide +kernel)) (by decide +kernel)
theorem M_X5_82 : LkV RX5 82 RX3 yX3_push cX3_push 3 none 1 := ⟨⟨Or.inr ⟨"ShareStreams", by decide +kernel⟩, gW_t (List.mem_of_getElem? (i := 3) (by decide +kernel)) (by decide +kernel), gW_t (List.mem_of_getElem? (i := 294) (by decide +kernel)) (by decide +kernel), by decide +kernel, by decide +kernel, by decide +kernel⟩, gW_t (List.mem_of_getElem? (i := 293) (by decide +kernel)) (by decide +kernel), gW_of (List.mem_append_left _ (by decide +kernel)) (by decide +kernel)⟩
theorem M_X5_86 : LkV RX5 86 RX0 yX0_setSource cX0_setSource 4 none 3 := ⟨⟨Or.inr ⟨"ShareStreams", by decide +kernel⟩, gW_t (List.mem_of_getElem? (i := 2) (by decide +kernel)) (by decide +kernel), gW_t (List.mem_of_getElem? (i := 408) (by decide +kernel)) (by decide +kernel), by decide +kernel, by decide +kernel, by decide +kernel⟩, gW_t (List.mem_of_getElem? (i := 407) (by decide +kernel)) (by decide +kernel), gW_of (List.mem_append_left _ (by decide +kernel)) (by decide +kernel)⟩
theorem L_X5_90 : FLk RX5 90 "ShareStreams$Bench" "size" "I" := Or.inr ⟨"ShareStreams", by decide +kernel⟩
theorem M_X5_94 : LkV RX5 94 RX0 yX0_dropLast cX0_dropLast 1 none 0 := ⟨⟨Or.inr ⟨"ShareStreams", by decide +kernel⟩, gW_t (List.mem_of_getElem? (i := 2) (by decide +kernel)) (by decide +kernel), gW_t (List.mem_of_getElem? (i := 323) (by decide +kernel)) (by decide +kernel), by decide +kernel, by decide +kernel, by decide +kernel⟩, gW_t (List.mem_of_getElem? (i := 322) (by decide +kernel)) (by decide +kernel), gW_of (List.mem_append_left _ (by decide +kernel)) (by decide +kernel)⟩
theorem L_X5_97 : FLk RX5 97 "ShareStreams$Bench" "length" "I" := Or.inr ⟨"ShareStreams", by decide +kernel⟩
theorem M_X5_125 : LkS RX5 125 yX5_numbersOfKind cX5_numbersOfKind 1 (some .int) 1 := ⟨⟨Or.inl (gW_t (List.mem_of_getElem? (i := 359) (by decide +kernel)) (by decide +kernel)), gW_t (List.mem_of_getElem? (i := 1) (by decide +kernel)) (by decide +kernel), gW_t (List.mem_of_getElem? (i := 361) (by decide +kernel)) (by decide +kernel), by decide +kernel, by decide +kernel, by decide +kernel⟩, gW_t (List.mem_of_getElem? (i := 360) (by decide +kernel)) (by decide +kernel)⟩
theorem M_X5_128 : LkV RX5 128 RX5 yX5_onesOver cX5_onesOver 3 (some .int) 2 := ⟨⟨Or.inl (gW_t (List.mem_of_getElem? (i := 365) (by decide +kernel)) (by decide +kernel)), gW_t (List.mem_of_getElem? (i := 1) (by decide +kernel)) (by decide +kernel), gW_t (List.mem_of_getElem? (i := 368) (by decide +kernel)) (by decide +kernel), by decide +kernel, by decide +kernel, by decide +kernel⟩, gW_t (List.mem_of_getElem? (i := 367) (by decide +kernel)) (by decide +kernel), gW_of (List.mem_append_left _ (by decide +kernel)) (by decide +kernel)⟩
theorem M_X5_131 : LkS RX5 131 yX5_shareOf cX5_shareOf 2 (some .int) 2 := ⟨⟨Or.inl (gW_t (List.mem_of_getElem? (i := 258) (by decide +kernel)) (by decide +kernel)), gW_t (List.mem_of_getElem? (i := 1) (by decide +kernel)) (by decide +kernel), gW_t (List.mem_of_getElem? (i := 260) (by decide +kernel)) (by decide +kernel), by decide +kernel, by decide +kernel, by decide +kernel⟩, gW_t (List.mem_of_getElem? (i := 259) (by decide +kernel)) (by decide +kernel)⟩
theorem M_X5_134 : LkV RX5 134 RX2 yX2_workOut cX2_workOut 3 none 1 := ⟨⟨Or.inr ⟨"ShareStreams", by decide +kernel⟩, gW_t (List.mem_of_getElem? (i := 5) (by decide +kernel)) (by decide +kernel), gW_t (List.mem_of_getElem? (i := 159) (by decide +kernel)) (by decide +kernel), by decide +kernel, by decide +kernel, by decide +kernel⟩, gW_t (List.mem_of_getElem? (i := 158) (by decide +kernel)) (by decide +kernel), gW_of (List.mem_append_left _ (by decide +kernel)) (by decide +kernel)⟩
theorem M_X5_137 : LkV RX5 137 RX2 yX2_exactShareOf cX2_exactShareOf 2 (some .int) 1 := ⟨⟨Or.inr ⟨"ShareStreams", by decide +kernel⟩, gW_t (List.mem_of_getElem? (i := 5) (by decide +kernel)) (by decide +kernel), gW_t (List.mem_of_getElem? (i := 171) (by decide +kernel)) (by decide +kernel), by decide +kernel, by decide +kernel, by decide +kernel⟩, gW_t (List.mem_of_getElem? (i := 170) (by decide +kernel)) (by decide +kernel), gW_of (List.mem_append_left _ (by decide +kernel)) (by decide +kernel)⟩
theorem M_X5_140 : LkV RX5 140 RX5 yX5_errorOver cX5_errorOver 3 (some .int) 2 := ⟨⟨Or.inl (gW_t (List.mem_of_getElem? (i := 369) (by decide +kernel)) (by decide +kernel)), gW_t (List.mem_of_getElem? (i := 1) (by decide +kernel)) (by decide +kernel), gW_t (List.mem_of_getElem? (i := 372) (by decide +kernel)) (by decide +kernel), by decide +kernel, by decide +kernel, by decide +kernel⟩, gW_t (List.mem_of_getElem? (i := 371) (by decide +kernel)) (by decide +kernel), gW_of (List.mem_append_left _ (by decide +kernel)) (by decide +kernel)⟩
theorem M_X5_143 : LkV RX5 143 RX2 yX2_depthOf cX2_depthOf 2 (some .int) 1 := ⟨⟨Or.inr ⟨"ShareStreams", by decide +kernel⟩, gW_t (List.mem_of_getElem? (i := 5) (by decide +kernel)) (by decide +kernel), gW_t (List.mem_of_getElem? (i := 198) (by decide +kernel)) (by decide +kernel), by decide +kernel, by decide +kernel, by decide +kernel⟩, gW_t (List.mem_of_getElem? (i := 197) (by decide +kernel)) (by decide +kernel), gW_of (List.mem_append_left _ (by decide +kernel)) (by decide +kernel)⟩
theorem M_X5_146 : LkV RX5 146 RX2 yX2_sourcesOf cX2_sourcesOf 2 (some .int) 1 := ⟨⟨Or.inr ⟨"ShareStreams", by decide +kernel⟩, gW_t (List.mem_of_getElem? (i := 5) (by decide +kernel)) (by decide +kernel), gW_t (List.mem_of_getElem? (i := 377) (by decide +kernel)) (by decide +kernel), by decide +kernel, by decide +kernel, by decide +kernel⟩, gW_t (List.mem_of_getElem? (i := 376) (by decide +kernel)) (by decide +kernel), gW_of (List.mem_append_left _ (by decide +kernel)) (by decide +kernel)⟩
theorem M_X5_149 : LkV RX5 149 RX4 yX4_fill cX4_fill 5 none 3 := ⟨⟨Or.inr ⟨"ShareStreams", by decide +kernel⟩, gW_t (List.mem_of_getElem? (i := 6) (by decide +kernel)) (by decide +kernel), gW_t (List.mem_of_getElem? (i := 209) (by decide +kernel)) (by decide +kernel), by decide +kernel, by decide +kernel, by decide +kernel⟩, gW_t (List.mem_of_getElem? (i := 208) (by decide +kernel)) (by decide +kernel), gW_of (List.mem_append_left _ (by decide +kernel)) (by decide +kernel)⟩
theorem M_X5_153 : LkV RX5 153 RX4 yX4_bitAt cX4_bitAt 3 (some .int) 2 := ⟨⟨Or.inr ⟨"ShareStreams", by decide +kernel⟩, gW_t (List.mem_of_getElem? (i := 6) (by decide +kernel)) (by decide +kernel), gW_t (List.mem_of_getElem? (i := 391) (by decide +kernel)) (by decide +kernel), by decide +kernel, by decide +kernel, by decide +kernel⟩, gW_t (List.mem_of_getElem? (i := 390) (by decide +kernel)) (by decide +kernel), gW_of (List.mem_append_left _ (by decide +kernel)) (by decide +kernel)⟩
theorem M_X5_156 : Cond.methodLink RX5 156 Lib.Math.max.name ∈ gW := gW_t (List.mem_of_getElem? (i := 435) (by decide +kernel)) (by decide +kernel)
theorem M_X5_161 : LkV RX5 161 RX4 yX4_onesInBoth cX4_onesInBoth 8 (some .int) 3 := ⟨⟨Or.inr ⟨"ShareStreams", by decide +kernel⟩, gW_t (List.mem_of_getElem? (i := 6) (by decide +kernel)) (by decide +kernel), gW_t (List.mem_of_getElem? (i := 247) (by decide +kernel)) (by decide +kernel), by decide +kernel, by decide +kernel, by decide +kernel⟩, gW_t (List.mem_of_getElem? (i := 246) (by decide +kernel)) (by decide +kernel), gW_of (List.mem_append_left _ (by decide +kernel)) (by decide +kernel)⟩
theorem M_X5_165 : LkV RX5 165 RX4 yX4_onesIn cX4_onesIn 3 (some .int) 2 := ⟨⟨Or.inr ⟨"ShareStreams", by decide +kernel⟩, gW_t (List.mem_of_getElem? (i := 6) (by decide +kernel)) (by decide +kernel), gW_t (List.mem_of_getElem? (i := 243) (by decide +kernel)) (by decide +kernel), by decide +kernel, by decide +kernel, by decide +kernel⟩, gW_t (List.mem_of_getElem? (i := 242) (by decide +kernel)) (by decide +kernel), gW_of (List.mem_append_left _ (by decide +kernel)) (by decide +kernel)⟩
theorem K_X5_168 : Cond.constantLong RX5 168 (65536) ∈ gW := gW_t (List.mem_of_getElem? (i := 437) (by decide +kernel)) (by decide +kernel)
theorem K_X5_170 : Cond.constant RX5 170 (65536) ∈ gW := gW_t (List.mem_of_getElem? (i := 261) (by decide +kernel)) (by decide +kernel)
theorem M_X5_171 : LkV RX5 171 RX5 yX5_lastLengthBeyond cX5_lastLengthBeyond 6 (some .int) 2 := ⟨⟨Or.inl (gW_t (List.mem_of_getElem? (i := 427) (by decide +kernel)) (by decide +kernel)), gW_t (List.mem_of_getElem? (i := 1) (by decide +kernel)) (by decide +kernel), gW_t (List.mem_of_getElem? (i := 430) (by decide +kernel)) (by decide +kernel), by decide +kernel, by decide +kernel, by decide +kernel⟩, gW_t (List.mem_of_getElem? (i := 429) (by decide +kernel)) (by decide +kernel), gW_of (List.mem_append_left _ (by decide +kernel)) (by decide +kernel)⟩
theorem M_X5_177 : LkV RX5 177 RX0 yX0_sources cX0_sources 3 (some .int) 0 := ⟨⟨Or.inr ⟨"ShareStreams", by decide +kernel⟩, gW_t (List.mem_of_getElem? (i := 2) (by decide +kernel)) (by decide +kernel), gW_t (List.mem_of_getElem? (i := 140) (by decide +kernel)) (by decide +kernel), by decide +kernel, by decide +kernel, by decide +kernel⟩, gW_t (List.mem_of_getElem? (i := 139) (by decide +kernel)) (by decide +kernel), gW_of (List.mem_append_left _ (by decide +kernel)) (by decide +kernel)⟩
theorem M_X5_181 : LkV RX5 181 RX5 yX5_sumOfErrors cX5_sumOfErrors 3 (some .int) 0 := ⟨⟨Or.inl (gW_t (List.mem_of_getElem? (i := 148) (by decide +kernel)) (by decide +kernel)), gW_t (List.mem_of_getElem? (i := 1) (by decide +kernel)) (by decide +kernel), gW_t (List.mem_of_getElem? (i := 151) (by decide +kernel)) (by decide +kernel), by decide +kernel, by decide +kernel, by decide +kernel⟩, gW_t (List.mem_of_getElem? (i := 150) (by decide +kernel)) (by decide +kernel), gW_of (List.mem_append_left _ (by decide +kernel)) (by decide +kernel)⟩
theorem M_X5_184 : LkV RX5 184 RX5 yX5_lineWithGreatestError cX5_lineWithGreatestError 5 (some .int) 0 := ⟨⟨Or.inl (gW_t (List.mem_of_getElem? (i := 266) (by decide +kernel)) (by decide +kernel)), gW_t (List.mem_of_getElem? (i := 1) (by decide +kernel)) (by decide +kernel), gW_t (List.mem_of_getElem? (i := 269) (by decide +kernel)) (by decide +kernel), by decide +kernel, by decide +kernel, by decide +kernel⟩, gW_t (List.mem_of_getElem? (i := 268) (by decide +kernel)) (by decide +kernel), gW_of (List.mem_append_left _ (by decide +kernel)) (by decide +kernel)⟩
theorem M_X5_187 : LkV RX5 187 RX2 yX2_greatestDepth cX2_greatestDepth 4 (some .int) 1 := ⟨⟨Or.inr ⟨"ShareStreams", by decide +kernel⟩, gW_t (List.mem_of_getElem? (i := 5) (by decide +kernel)) (by decide +kernel), gW_t (List.mem_of_getElem? (i := 274) (by decide +kernel)) (by decide +kernel), by decide +kernel, by decide +kernel, by decide +kernel⟩, gW_t (List.mem_of_getElem? (i := 273) (by decide +kernel)) (by decide +kernel), gW_of (List.mem_append_left _ (by decide +kernel)) (by decide +kernel)⟩
theorem L_X5_118 : FLk RX5 118 "ShareStreams$History" "size" "I" := Or.inr ⟨"ShareStreams", by decide +kernel⟩
theorem L_X5_113 : FLk RX5 113 "ShareStreams$CircuitText" "size" "I" := Or.inr ⟨"ShareStreams", by decide +kernel⟩
theorem K_X5_109 : Cond.constant RX5 109 (-100000003) ∈ gW := gW_t (List.mem_of_getElem? (i := 338) (by decide +kernel)) (by decide +kernel)
theorem M_X5_190 : LkV RX5 190 RX0 yX0_add cX0_add 5 none 4 := ⟨⟨Or.inr ⟨"ShareStreams", by decide +kernel⟩, gW_t (List.mem_of_getElem? (i := 2) (by decide +kernel)) (by decide +kernel), gW_t (List.mem_of_getElem? (i := 314) (by decide +kernel)) (by decide +kernel), by decide +kernel, by decide +kernel, by decide +kernel⟩, gW_t (List.mem_of_getElem? (i := 313) (by decide +kernel)) (by decide +kernel), gW_of (List.mem_append_left _ (by decide +kernel)) (by decide +kernel)⟩
theorem M_X5_194 : LkV RX5 194 RX5 yX5_errorOfFilled cX5_errorOfFilled 3 (some .int) 2 := ⟨⟨Or.inl (gW_t (List.mem_of_getElem? (i := 236) (by decide +kernel)) (by decide +kernel)), gW_t (List.mem_of_getElem? (i := 1) (by decide +kernel)) (by decide +kernel), gW_t (List.mem_of_getElem? (i := 239) (by decide +kernel)) (by decide +kernel), by decide +kernel, by decide +kernel, by decide +kernel⟩, gW_t (List.mem_of_getElem? (i := 238) (by decide +kernel)) (by decide +kernel), gW_of (List.mem_append_left _ (by decide +kernel)) (by decide +kernel)⟩
theorem M_X5_197 : LkV RX5 197 RX5 yX5_errorOfCount cX5_errorOfCount 4 (some .int) 3 := ⟨⟨Or.inl (gW_t (List.mem_of_getElem? (i := 254) (by decide +kernel)) (by decide +kernel)), gW_t (List.mem_of_getElem? (i := 1) (by decide +kernel)) (by decide +kernel), gW_t (List.mem_of_getElem? (i := 257) (by decide +kernel)) (by decide +kernel), by decide +kernel, by decide +kernel, by decide +kernel⟩, gW_t (List.mem_of_getElem? (i := 256) (by decide +kernel)) (by decide +kernel), gW_of (List.mem_append_left _ (by decide +kernel)) (by decide +kernel)⟩
theorem M_X5_200 : Cond.methodLink RX5 200 Lib.Math.abs.name ∈ gW := gW_t (List.mem_of_getElem? (i := 263) (by decide +kernel)) (by decide +kernel)
theorem M_X5_207 : LkV RX5 207 RX5 yX5_fillAll cX5_fillAll 1 none 0 := ⟨⟨Or.inl (gW_t (List.mem_of_getElem? (i := 152) (by decide +kernel)) (by decide +kernel)), gW_t (List.mem_of_getElem? (i := 1) (by decide +kernel)) (by decide +kernel), gW_t (List.mem_of_getElem? (i := 155) (by decide +kernel)) (by decide +kernel), by decide +kernel, by decide +kernel, by decide +kernel⟩, gW_t (List.mem_of_getElem? (i := 154) (by decide +kernel)) (by decide +kernel), gW_of (List.mem_append_left _ (by decide +kernel)) (by decide +kernel)⟩
theorem L_X5_213 : Cond.fieldLink RX5 213 "ShareStreams" "NUMBERS_OF_KIND" "[I" ∈ gW := gW_t (List.mem_of_getElem? (i := 362) (by decide +kernel)) (by decide +kernel)
theorem M_X5_217 : LkS RX5 217 yX5_elementAt cX5_elementAt 2 (some .int) 2 := ⟨⟨Or.inl (gW_t (List.mem_of_getElem? (i := 194) (by decide +kernel)) (by decide +kernel)), gW_t (List.mem_of_getElem? (i := 1) (by decide +kernel)) (by decide +kernel), gW_t (List.mem_of_getElem? (i := 147) (by decide +kernel)) (by decide +kernel), by decide +kernel, by decide +kernel, by decide +kernel⟩, gW_t (List.mem_of_getElem? (i := 146) (by decide +kernel)) (by decide +kernel)⟩
theorem L_X5_221 : Cond.fieldLink RX5 221 "ShareStreams" "LINES_OF_KIND" "[I" ∈ gW := gW_t (List.mem_of_getElem? (i := 192) (by decide +kernel)) (by decide +kernel)
theorem K_J6_265 : Cond.constant RJ6 265 (1431655765) ∈ gW := gW_t (List.mem_of_getElem? (i := 381) (by decide +kernel)) (by decide +kernel)
theorem K_J6_266 : Cond.constant RJ6 266 (858993459) ∈ gW := gW_t (List.mem_of_getElem? (i := 382) (by decide +kernel)) (by decide +kernel)
theorem K_J6_267 : Cond.constant RJ6 267 (252645135) ∈ gW := gW_t (List.mem_of_getElem? (i := 383) (by decide +kernel)) (by decide +kernel)
theorem K_J13_314 : Cond.constantLong RJ13 314 (6148914691236517205) ∈ gW := gW_t (List.mem_of_getElem? (i := 251) (by decide +kernel)) (by decide +kernel)
theorem K_J13_316 : Cond.constantLong RJ13 316 (3689348814741910323) ∈ gW := gW_t (List.mem_of_getElem? (i := 252) (by decide +kernel)) (by decide +kernel)
theorem K_J13_318 : Cond.constantLong RJ13 318 (1085102592571150095) ∈ gW := gW_t (List.mem_of_getElem? (i := 253) (by decide +kernel)) (by decide +kernel)
theorem K_L_7 : Cond.constant RL 7 (2106219667) ∈ gW := gW_t (List.mem_of_getElem? (i := 279) (by decide +kernel)) (by decide +kernel)
theorem K_L_8 : Cond.constant RL 8 (2147483647) ∈ gW := gW_t (List.mem_of_getElem? (i := 286) (by decide +kernel)) (by decide +kernel)
theorem M_L_9 : LkV RL 9 RX5 yX5_count cX5_count 2 (some .int) 1 := ⟨⟨Or.inl (gW_t (List.mem_of_getElem? (i := 133) (by decide +kernel)) (by decide +kernel)), gW_t (List.mem_of_getElem? (i := 1) (by decide +kernel)) (by decide +kernel), gW_t (List.mem_of_getElem? (i := 136) (by decide +kernel)) (by decide +kernel), by decide +kernel, by decide +kernel, by decide +kernel⟩, gW_t (List.mem_of_getElem? (i := 134) (by decide +kernel)) (by decide +kernel), gW_t (List.mem_of_getElem? (i := 135) (by decide +kernel)) (by decide +kernel)⟩
theorem M_L_36 : LkV RL 36 RX5 yX5_line cX5_line 3 (some .int) 2 := ⟨⟨Or.inl (gW_t (List.mem_of_getElem? (i := 354) (by decide +kernel)) (by decide +kernel)), gW_t (List.mem_of_getElem? (i := 1) (by decide +kernel)) (by decide +kernel), gW_t (List.mem_of_getElem? (i := 357) (by decide +kernel)) (by decide +kernel), by decide +kernel, by decide +kernel, by decide +kernel⟩, gW_t (List.mem_of_getElem? (i := 355) (by decide +kernel)) (by decide +kernel), gW_t (List.mem_of_getElem? (i := 356) (by decide +kernel)) (by decide +kernel)⟩
theorem K_L_63 : Cond.constant RL 63 (65536) ∈ gW := gW_t (List.mem_of_getElem? (i := 418) (by decide +kernel)) (by decide +kernel)
theorem M_L_64 : LkV RL 64 RX5 yX5_unlike cX5_unlike 4 (some .int) 1 := ⟨⟨Or.inl (gW_t (List.mem_of_getElem? (i := 438) (by decide +kernel)) (by decide +kernel)), gW_t (List.mem_of_getElem? (i := 1) (by decide +kernel)) (by decide +kernel), gW_t (List.mem_of_getElem? (i := 441) (by decide +kernel)) (by decide +kernel), by decide +kernel, by decide +kernel, by decide +kernel⟩, gW_t (List.mem_of_getElem? (i := 439) (by decide +kernel)) (by decide +kernel), gW_t (List.mem_of_getElem? (i := 440) (by decide +kernel)) (by decide +kernel)⟩
theorem M_L_67 : LkV RL 67 RX5 yX5_overlap cX5_overlap 9 (some .int) 2 := ⟨⟨Or.inl (gW_t (List.mem_of_getElem? (i := 431) (by decide +kernel)) (by decide +kernel)), gW_t (List.mem_of_getElem? (i := 1) (by decide +kernel)) (by decide +kernel), gW_t (List.mem_of_getElem? (i := 434) (by decide +kernel)) (by decide +kernel), by decide +kernel, by decide +kernel, by decide +kernel⟩, gW_t (List.mem_of_getElem? (i := 432) (by decide +kernel)) (by decide +kernel), gW_t (List.mem_of_getElem? (i := 433) (by decide +kernel)) (by decide +kernel)⟩
theorem M_L_39 : LkV RL 39 RX5 yX5_bit cX5_bit 3 (some .int) 2 := ⟨⟨Or.inl (gW_t (List.mem_of_getElem? (i := 384) (by decide +kernel)) (by decide +kernel)), gW_t (List.mem_of_getElem? (i := 1) (by decide +kernel)) (by decide +kernel), gW_t (List.mem_of_getElem? (i := 387) (by decide +kernel)) (by decide +kernel), by decide +kernel, by decide +kernel, by decide +kernel⟩, gW_t (List.mem_of_getElem? (i := 385) (by decide +kernel)) (by decide +kernel), gW_t (List.mem_of_getElem? (i := 386) (by decide +kernel)) (by decide +kernel)⟩
theorem K_L_70 : Cond.constantLong RL 70 (65536) ∈ gW := gW_t (List.mem_of_getElem? (i := 417) (by decide +kernel)) (by decide +kernel)
theorem M_L_72 : LkV RL 72 RX5 yX5_errorAt cX5_errorAt 3 (some .int) 2 := ⟨⟨Or.inl (gW_t (List.mem_of_getElem? (i := 419) (by decide +kernel)) (by decide +kernel)), gW_t (List.mem_of_getElem? (i := 1) (by decide +kernel)) (by decide +kernel), gW_t (List.mem_of_getElem? (i := 422) (by decide +kernel)) (by decide +kernel), by decide +kernel, by decide +kernel, by decide +kernel⟩, gW_t (List.mem_of_getElem? (i := 420) (by decide +kernel)) (by decide +kernel), gW_t (List.mem_of_getElem? (i := 421) (by decide +kernel)) (by decide +kernel)⟩
theorem M_L_15 : LkS RL 15 yL_up cL_up 2 (some .int) 2 := ⟨⟨Or.inl (gW_t (List.mem_of_getElem? (i := 283) (by decide +kernel)) (by decide +kernel)), gW_t (List.mem_of_getElem? (i := 0) (by decide +kernel)) (by decide +kernel), gW_t (List.mem_of_getElem? (i := 285) (by decide +kernel)) (by decide +kernel), by decide +kernel, by decide +kernel, by decide +kernel⟩, gW_t (List.mem_of_getElem? (i := 284) (by decide +kernel)) (by decide +kernel)⟩
theorem M_L_75 : LkV RL 75 RX5 yX5_settles cX5_settles 4 (some .int) 2 := ⟨⟨Or.inl (gW_t (List.mem_of_getElem? (i := 423) (by decide +kernel)) (by decide +kernel)), gW_t (List.mem_of_getElem? (i := 1) (by decide +kernel)) (by decide +kernel), gW_t (List.mem_of_getElem? (i := 426) (by decide +kernel)) (by decide +kernel), by decide +kernel, by decide +kernel, by decide +kernel⟩, gW_t (List.mem_of_getElem? (i := 424) (by decide +kernel)) (by decide +kernel), gW_t (List.mem_of_getElem? (i := 425) (by decide +kernel)) (by decide +kernel)⟩
theorem K_L_78 : Cond.constant RL 78 (-100000005) ∈ gW := gW_t (List.mem_of_getElem? (i := 448) (by decide +kernel)) (by decide +kernel)
theorem K_L_35 : Cond.constant RL 35 (-100000001) ∈ gW := gW_t (List.mem_of_getElem? (i := 353) (by decide +kernel)) (by decide +kernel)
theorem M_L_80 : LkS RL 80 yL_cell cL_cell 2 (some .int) 2 := ⟨⟨Or.inl (gW_t (List.mem_of_getElem? (i := 276) (by decide +kernel)) (by decide +kernel)), gW_t (List.mem_of_getElem? (i := 0) (by decide +kernel)) (by decide +kernel), gW_t (List.mem_of_getElem? (i := 278) (by decide +kernel)) (by decide +kernel), by decide +kernel, by decide +kernel, by decide +kernel⟩, gW_t (List.mem_of_getElem? (i := 277) (by decide +kernel)) (by decide +kernel)⟩
theorem M_L_84 : LkS RL 84 yL_isStep cL_isStep 13 (some .boolean) 4 := ⟨⟨Or.inl (gW_t (List.mem_of_getElem? (i := 280) (by decide +kernel)) (by decide +kernel)), gW_t (List.mem_of_getElem? (i := 0) (by decide +kernel)) (by decide +kernel), gW_t (List.mem_of_getElem? (i := 282) rfl) (by decide +kernel), by decide +kernel, by decide +kernel, by decide +kernel⟩, gW_t (List.mem_of_getElem? (i := 281) (by decide +kernel)) (by decide +kernel)⟩
theorem M_L_88 : LkS RL 88 yL_isWell cL_isWell 8 (some .boolean) 1 := ⟨⟨Or.inl (gW_t (List.mem_of_getElem? (i := 445) (by decide +kernel)) (by decide +kernel)), gW_t (List.mem_of_getElem? (i := 0) (by decide +kernel)) (by decide +kernel), gW_t (List.mem_of_getElem? (i := 447) (by decide +kernel)) (by decide +kernel), by decide +kernel, by decide +kernel, by decide +kernel⟩, gW_t (List.mem_of_getElem? (i := 446) (by decide +kernel)) (by decide +kernel)⟩
theorem M_L_59 : LkS RL 59 yL_isTurned cL_isTurned 6 (some .boolean) 3 := ⟨⟨Or.inl (gW_t (List.mem_of_getElem? (i := 442) (by decide +kernel)) (by decide +kernel)), gW_t (List.mem_of_getElem? (i := 0) (by decide +kernel)) (by decide +kernel), gW_t (List.mem_of_getElem? (i := 444) (by decide +kernel)) (by decide +kernel), by decide +kernel, by decide +kernel, by decide +kernel⟩, gW_t (List.mem_of_getElem? (i := 443) (by decide +kernel)) (by decide +kernel)⟩
theorem M_L_21 : LkV RL 21 RX5 yX5_removeLast cX5_removeLast 1 (some .int) 0 := ⟨⟨Or.inl (gW_t (List.mem_of_getElem? (i := 287) (by decide +kernel)) (by decide +kernel)), gW_t (List.mem_of_getElem? (i := 1) (by decide +kernel)) (by decide +kernel), gW_t (List.mem_of_getElem? (i := 290) (by decide +kernel)) (by decide +kernel), by decide +kernel, by decide +kernel, by decide +kernel⟩, gW_t (List.mem_of_getElem? (i := 288) (by decide +kernel)) (by decide +kernel), gW_t (List.mem_of_getElem? (i := 289) (by decide +kernel)) (by decide +kernel)⟩
theorem M_L_25 : LkV RL 25 RX5 yX5_source cX5_source 3 (some .int) 2 := ⟨⟨Or.inl (gW_t (List.mem_of_getElem? (i := 324) (by decide +kernel)) (by decide +kernel)), gW_t (List.mem_of_getElem? (i := 1) (by decide +kernel)) (by decide +kernel), gW_t (List.mem_of_getElem? (i := 327) (by decide +kernel)) (by decide +kernel), by decide +kernel, by decide +kernel, by decide +kernel⟩, gW_t (List.mem_of_getElem? (i := 325) (by decide +kernel)) (by decide +kernel), gW_t (List.mem_of_getElem? (i := 326) (by decide +kernel)) (by decide +kernel)⟩
theorem M_L_28 : LkV RL 28 RX5 yX5_turn cX5_turn 2 (some .int) 1 := ⟨⟨Or.inl (gW_t (List.mem_of_getElem? (i := 340) (by decide +kernel)) (by decide +kernel)), gW_t (List.mem_of_getElem? (i := 1) (by decide +kernel)) (by decide +kernel), gW_t (List.mem_of_getElem? (i := 343) (by decide +kernel)) (by decide +kernel), by decide +kernel, by decide +kernel, by decide +kernel⟩, gW_t (List.mem_of_getElem? (i := 341) (by decide +kernel)) (by decide +kernel), gW_t (List.mem_of_getElem? (i := 342) (by decide +kernel)) (by decide +kernel)⟩
theorem M_L_31 : LkV RL 31 RX5 yX5_gate cX5_gate 4 (some .int) 3 := ⟨⟨Or.inl (gW_t (List.mem_of_getElem? (i := 349) (by decide +kernel)) (by decide +kernel)), gW_t (List.mem_of_getElem? (i := 1) (by decide +kernel)) (by decide +kernel), gW_t (List.mem_of_getElem? (i := 352) (by decide +kernel)) (by decide +kernel), by decide +kernel, by decide +kernel, by decide +kernel⟩, gW_t (List.mem_of_getElem? (i := 350) (by decide +kernel)) (by decide +kernel), gW_t (List.mem_of_getElem? (i := 351) (by decide +kernel)) (by decide +kernel)⟩
theorem M_L_42 : LkV RL 42 RX5 yX5_choose cX5_choose 4 (some .int) 3 := ⟨⟨Or.inl (gW_t (List.mem_of_getElem? (i := 392) (by decide +kernel)) (by decide +kernel)), gW_t (List.mem_of_getElem? (i := 1) (by decide +kernel)) (by decide +kernel), gW_t (List.mem_of_getElem? (i := 395) (by decide +kernel)) (by decide +kernel), by decide +kernel, by decide +kernel, by decide +kernel⟩, gW_t (List.mem_of_getElem? (i := 393) (by decide +kernel)) (by decide +kernel), gW_t (List.mem_of_getElem? (i := 394) (by decide +kernel)) (by decide +kernel)⟩
theorem M_L_45 : LkV RL 45 RX5 yX5_delay cX5_delay 3 (some .int) 2 := ⟨⟨Or.inl (gW_t (List.mem_of_getElem? (i := 396) (by decide +kernel)) (by decide +kernel)), gW_t (List.mem_of_getElem? (i := 1) (by decide +kernel)) (by decide +kernel), gW_t (List.mem_of_getElem? (i := 399) (by decide +kernel)) (by decide +kernel), by decide +kernel, by decide +kernel, by decide +kernel⟩, gW_t (List.mem_of_getElem? (i := 397) (by decide +kernel)) (by decide +kernel), gW_t (List.mem_of_getElem? (i := 398) (by decide +kernel)) (by decide +kernel)⟩
theorem M_L_48 : LkV RL 48 RX5 yX5_reseed cX5_reseed 5 (some .int) 3 := ⟨⟨Or.inl (gW_t (List.mem_of_getElem? (i := 400) (by decide +kernel)) (by decide +kernel)), gW_t (List.mem_of_getElem? (i := 1) (by decide +kernel)) (by decide +kernel), gW_t (List.mem_of_getElem? (i := 403) (by decide +kernel)) (by decide +kernel), by decide +kernel, by decide +kernel, by decide +kernel⟩, gW_t (List.mem_of_getElem? (i := 401) (by decide +kernel)) (by decide +kernel), gW_t (List.mem_of_getElem? (i := 402) (by decide +kernel)) (by decide +kernel)⟩
theorem K_L_51 : Cond.constant RL 51 (-100000004) ∈ gW := gW_t (List.mem_of_getElem? (i := 409) (by decide +kernel)) (by decide +kernel)
theorem M_L_52 : LkV RL 52 RX5 yX5_setLength cX5_setLength 3 (some .int) 1 := ⟨⟨Or.inl (gW_t (List.mem_of_getElem? (i := 410) (by decide +kernel)) (by decide +kernel)), gW_t (List.mem_of_getElem? (i := 1) (by decide +kernel)) (by decide +kernel), gW_t (List.mem_of_getElem? (i := 413) (by decide +kernel)) (by decide +kernel), by decide +kernel, by decide +kernel, by decide +kernel⟩, gW_t (List.mem_of_getElem? (i := 411) (by decide +kernel)) (by decide +kernel), gW_t (List.mem_of_getElem? (i := 412) (by decide +kernel)) (by decide +kernel)⟩
theorem M_L_55 : LkS RL 55 yL_isLine cL_isLine 16 (some .boolean) 4 := ⟨⟨Or.inl (gW_t (List.mem_of_getElem? (i := 414) (by decide +kernel)) (by decide +kernel)), gW_t (List.mem_of_getElem? (i := 0) (by decide +kernel)) (by decide +kernel), gW_t (List.mem_of_getElem? (i := 416) (by decide +kernel)) (by decide +kernel), by decide +kernel, by decide +kernel, by decide +kernel⟩, gW_t (List.mem_of_getElem? (i := 415) (by decide +kernel)) (by decide +kernel)⟩
end
section
section LKS
variable {p : Program} {l : Launch} {e : Env} {R : Room} {s : State} {m : MethodId} {args : Array Value} {below : List Frame} {meth : Method} {co : Code} {H : Heap} {locs : List Loc} {cells slots : Nat} {Q : State → Prop}
variable {cc : ByteArray} {pc : Nat} {ls : Array Slot} {rest st : List Value} {E : EV} {u : SS} {nL : Nat} {own : String} {ret : Option FieldType}
theorem wB (E : EV) (u : SS) {b : Nat} (hb : b < 7) : (wl E u)[10 + 3 * b]? = some (eA E (10 + 3 * b), .inr (0, [.int (u.1 1 b), .int (u.1 2 b), .ref (eA E (11 + 3 * b)), .ref (eA E (12 + 3 * b))])) := by
  match b, hb with
  | 0, _ => rfl
  | 1, _ => rfl
  | 2, _ => rfl
  | 3, _ => rfl
  | 4, _ => rfl
  | 5, _ => rfl
  | 6, _ => rfl
  | n + 7, h => exact absurd h (by omega)
theorem sB0 (E : EV) (u : SS) {b : Nat} (hb : b < 7) (v : Int32) : (wl E u).set (10 + 3 * b) (eA E (10 + 3 * b), .inr (0, ([.int (u.1 1 b), .int (u.1 2 b), .ref (eA E (11 + 3 * b)), .ref (eA E (12 + 3 * b))] : List Value).set 0 (.int v))) = wl E (up u.1 1 b v, u.2) := by
  match b, hb with
  | 0, _ => rfl
  | 1, _ => rfl
  | 2, _ => rfl
  | 3, _ => rfl
  | 4, _ => rfl
  | 5, _ => rfl
  | 6, _ => rfl
  | n + 7, h => exact absurd h (by omega)
theorem sB1 (E : EV) (u : SS) {b : Nat} (hb : b < 7) (v : Int32) : (wl E u).set (10 + 3 * b) (eA E (10 + 3 * b), .inr (0, ([.int (u.1 1 b), .int (u.1 2 b), .ref (eA E (11 + 3 * b)), .ref (eA E (12 + 3 * b))] : List Value).set 1 (.int v))) = wl E (up u.1 2 b v, u.2) := by
  match b, hb with
  | 0, _ => rfl
  | 1, _ => rfl
  | 2, _ => rfl
  | 3, _ => rfl
  | 4, _ => rfl
  | 5, _ => rfl
  | 6, _ => rfl
  | n + 7, h => exact absurd h (by omega)
theorem gX0_length (F : Fx E p s m args meth co cc nL own ret) (hI : Iv E s H locs u) {idx b : Nat} (hb : b < 7) (hL : FLk own idx "ShareStreams$Bench" "length" "I") (hdg : decode cc pc = .ok (.getfield idx, 3)) (kk : W p l e R s m args below meth co H locs cells slots Q (F0 m (pc + 3) ls (.int (u.1 1 b) :: rest))) : W p l e R s m args below meth co H locs cells slots Q (F0 m pc ls (.ref (eA E (10 + 3 * b)) :: rest)) := fG F hI (10 + 3 * b) (wB E u hb) rfl inlX0 0 (by decide) hL rfl rfl hdg kk
theorem pX0_length (F : Fx E p s m args meth co cc nL own ret) (hI : Iv E s H locs u) {idx b : Nat} {v : Int32} (hb : b < 7) (hL : FLk own idx "ShareStreams$Bench" "length" "I") (hdg : decode cc pc = .ok (.putfield idx, 3)) (kk : ∀ (H1 : Heap) (locs1 : List Loc), Iv E s H1 locs1 (up u.1 1 b v, u.2) → W p l e R s m args below meth co H1 locs1 cells slots Q (F0 m (pc + 3) ls (rest))) : W p l e R s m args below meth co H locs cells slots Q (F0 m pc ls (.int v :: .ref (eA E (10 + 3 * b)) :: rest)) := fP F hI (10 + 3 * b) (wB E u hb) rfl inlX0 tyX0 tyX0_ok nmX0 0 (by decide) hL rfl rfl rfl rfl (Nat.le_of_ble_eq_true rfl) (sB0 E u hb v) hdg kk
theorem gX0_size (F : Fx E p s m args meth co cc nL own ret) (hI : Iv E s H locs u) {idx b : Nat} (hb : b < 7) (hL : FLk own idx "ShareStreams$Bench" "size" "I") (hdg : decode cc pc = .ok (.getfield idx, 3)) (kk : W p l e R s m args below meth co H locs cells slots Q (F0 m (pc + 3) ls (.int (u.1 2 b) :: rest))) : W p l e R s m args below meth co H locs cells slots Q (F0 m pc ls (.ref (eA E (10 + 3 * b)) :: rest)) := fG F hI (10 + 3 * b) (wB E u hb) rfl inlX0 1 (by decide) hL rfl rfl hdg kk
theorem pX0_size (F : Fx E p s m args meth co cc nL own ret) (hI : Iv E s H locs u) {idx b : Nat} {v : Int32} (hb : b < 7) (hL : FLk own idx "ShareStreams$Bench" "size" "I") (hdg : decode cc pc = .ok (.putfield idx, 3)) (kk : ∀ (H1 : Heap) (locs1 : List Loc), Iv E s H1 locs1 (up u.1 2 b v, u.2) → W p l e R s m args below meth co H1 locs1 cells slots Q (F0 m (pc + 3) ls (rest))) : W p l e R s m args below meth co H locs cells slots Q (F0 m pc ls (.int v :: .ref (eA E (10 + 3 * b)) :: rest)) := fP F hI (10 + 3 * b) (wB E u hb) rfl inlX0 tyX0 tyX0_ok nmX0 1 (by decide) hL rfl rfl rfl rfl (Nat.le_of_ble_eq_true rfl) (sB1 E u hb v) hdg kk
theorem gX0_kinds (F : Fx E p s m args meth co cc nL own ret) (hI : Iv E s H locs u) {idx b : Nat} (hb : b < 7) (hL : FLk own idx "ShareStreams$Bench" "kinds" "[I") (hdg : decode cc pc = .ok (.getfield idx, 3)) (kk : W p l e R s m args below meth co H locs cells slots Q (F0 m (pc + 3) ls (.ref (eA E (11 + 3 * b)) :: rest))) : W p l e R s m args below meth co H locs cells slots Q (F0 m pc ls (.ref (eA E (10 + 3 * b)) :: rest)) := fG F hI (10 + 3 * b) (wB E u hb) rfl inlX0 2 (by decide) hL rfl rfl hdg kk
theorem gX0_numbers (F : Fx E p s m args meth co cc nL own ret) (hI : Iv E s H locs u) {idx b : Nat} (hb : b < 7) (hL : FLk own idx "ShareStreams$Bench" "numbers" "[I") (hdg : decode cc pc = .ok (.getfield idx, 3)) (kk : W p l e R s m args below meth co H locs cells slots Q (F0 m (pc + 3) ls (.ref (eA E (12 + 3 * b)) :: rest))) : W p l e R s m args below meth co H locs cells slots Q (F0 m pc ls (.ref (eA E (10 + 3 * b)) :: rest)) := fG F hI (10 + 3 * b) (wB E u hb) rfl inlX0 3 (by decide) hL rfl rfl hdg kk
theorem wX1 (E : EV) (u : SS) : (wl E u)[3]? = some (eA E 3, .inr (1, [.ref (eA E 4), .int (u.1 0 3), .int (u.1 0 4)])) := rfl
theorem gX1_characters (F : Fx E p s m args meth co cc nL own ret) (hI : Iv E s H locs u) {idx : Nat} (hL : FLk own idx "ShareStreams$CircuitText" "characters" "[C") (hdg : decode cc pc = .ok (.getfield idx, 3)) (kk : W p l e R s m args below meth co H locs cells slots Q (F0 m (pc + 3) ls (.ref (eA E 4) :: rest))) : W p l e R s m args below meth co H locs cells slots Q (F0 m pc ls (.ref (eA E 3) :: rest)) := fG F hI 3 (wX1 E u) rfl inlX1 0 (by decide) hL rfl rfl hdg kk
theorem gX1_size (F : Fx E p s m args meth co cc nL own ret) (hI : Iv E s H locs u) {idx : Nat} (hL : FLk own idx "ShareStreams$CircuitText" "size" "I") (hdg : decode cc pc = .ok (.getfield idx, 3)) (kk : W p l e R s m args below meth co H locs cells slots Q (F0 m (pc + 3) ls (.int (u.1 0 3) :: rest))) : W p l e R s m args below meth co H locs cells slots Q (F0 m pc ls (.ref (eA E 3) :: rest)) := fG F hI 3 (wX1 E u) rfl inlX1 1 (by decide) hL rfl rfl hdg kk
theorem sX1_size (E : EV) (u : SS) (v : Int32) : (wl E u).set 3 (eA E 3, .inr (1, ([.ref (eA E 4), .int (u.1 0 3), .int (u.1 0 4)] : List Value).set 1 (.int v))) = wl E (up u.1 0 3 v, u.2) := rfl
theorem pX1_size (F : Fx E p s m args meth co cc nL own ret) (hI : Iv E s H locs u) {idx : Nat} {v : Int32} (hL : FLk own idx "ShareStreams$CircuitText" "size" "I") (hdg : decode cc pc = .ok (.putfield idx, 3)) (kk : ∀ (H1 : Heap) (locs1 : List Loc), Iv E s H1 locs1 (up u.1 0 3 v, u.2) → W p l e R s m args below meth co H1 locs1 cells slots Q (F0 m (pc + 3) ls (rest))) : W p l e R s m args below meth co H locs cells slots Q (F0 m pc ls (.int v :: .ref (eA E 3) :: rest)) := fP F hI 3 (wX1 E u) rfl inlX1 tyX1 tyX1_ok nmX1 1 (by decide) hL rfl rfl rfl rfl (Nat.le_of_ble_eq_true rfl) (sX1_size E u v) hdg kk
theorem gX1_place (F : Fx E p s m args meth co cc nL own ret) (hI : Iv E s H locs u) {idx : Nat} (hL : FLk own idx "ShareStreams$CircuitText" "place" "I") (hdg : decode cc pc = .ok (.getfield idx, 3)) (kk : W p l e R s m args below meth co H locs cells slots Q (F0 m (pc + 3) ls (.int (u.1 0 4) :: rest))) : W p l e R s m args below meth co H locs cells slots Q (F0 m pc ls (.ref (eA E 3) :: rest)) := fG F hI 3 (wX1 E u) rfl inlX1 2 (by decide) hL rfl rfl hdg kk
theorem sX1_place (E : EV) (u : SS) (v : Int32) : (wl E u).set 3 (eA E 3, .inr (1, ([.ref (eA E 4), .int (u.1 0 3), .int (u.1 0 4)] : List Value).set 2 (.int v))) = wl E (up u.1 0 4 v, u.2) := rfl
theorem pX1_place (F : Fx E p s m args meth co cc nL own ret) (hI : Iv E s H locs u) {idx : Nat} {v : Int32} (hL : FLk own idx "ShareStreams$CircuitText" "place" "I") (hdg : decode cc pc = .ok (.putfield idx, 3)) (kk : ∀ (H1 : Heap) (locs1 : List Loc), Iv E s H1 locs1 (up u.1 0 4 v, u.2) → W p l e R s m args below meth co H1 locs1 cells slots Q (F0 m (pc + 3) ls (rest))) : W p l e R s m args below meth co H locs cells slots Q (F0 m pc ls (.int v :: .ref (eA E 3) :: rest)) := fP F hI 3 (wX1 E u) rfl inlX1 tyX1 tyX1_ok nmX1 2 (by decide) hL rfl rfl rfl rfl (Nat.le_of_ble_eq_true rfl) (sX1_place E u v) hdg kk
theorem wX2 (E : EV) (u : SS) : (wl E u)[5]? = some (eA E 5, .inr (2, [.ref (eA E 6), .ref (eA E 7), .ref (eA E 8)])) := rfl
theorem gX2_exactShares (F : Fx E p s m args meth co cc nL own ret) (hI : Iv E s H locs u) {idx : Nat} (hL : FLk own idx "ShareStreams$Figures" "exactShares" "[I") (hdg : decode cc pc = .ok (.getfield idx, 3)) (kk : W p l e R s m args below meth co H locs cells slots Q (F0 m (pc + 3) ls (.ref (eA E 6) :: rest))) : W p l e R s m args below meth co H locs cells slots Q (F0 m pc ls (.ref (eA E 5) :: rest)) := fG F hI 5 (wX2 E u) rfl inlX2 0 (by decide) hL rfl rfl hdg kk
theorem gX2_depths (F : Fx E p s m args meth co cc nL own ret) (hI : Iv E s H locs u) {idx : Nat} (hL : FLk own idx "ShareStreams$Figures" "depths" "[I") (hdg : decode cc pc = .ok (.getfield idx, 3)) (kk : W p l e R s m args below meth co H locs cells slots Q (F0 m (pc + 3) ls (.ref (eA E 7) :: rest))) : W p l e R s m args below meth co H locs cells slots Q (F0 m pc ls (.ref (eA E 5) :: rest)) := fG F hI 5 (wX2 E u) rfl inlX2 1 (by decide) hL rfl rfl hdg kk
theorem gX2_origins (F : Fx E p s m args meth co cc nL own ret) (hI : Iv E s H locs u) {idx : Nat} (hL : FLk own idx "ShareStreams$Figures" "origins" "[I") (hdg : decode cc pc = .ok (.getfield idx, 3)) (kk : W p l e R s m args below meth co H locs cells slots Q (F0 m (pc + 3) ls (.ref (eA E 8) :: rest))) : W p l e R s m args below meth co H locs cells slots Q (F0 m pc ls (.ref (eA E 5) :: rest)) := fG F hI 5 (wX2 E u) rfl inlX2 2 (by decide) hL rfl rfl hdg kk
theorem wX3 (E : EV) (u : SS) : (wl E u)[1]? = some (eA E 1, .inr (3, [.ref (eA E 2), .int (u.1 0 1), .int (u.1 0 2)])) := rfl
theorem gX3_states (F : Fx E p s m args meth co cc nL own ret) (hI : Iv E s H locs u) {idx : Nat} (hL : FLk own idx "ShareStreams$History" "states" "[LShareStreams$Bench;") (hdg : decode cc pc = .ok (.getfield idx, 3)) (kk : W p l e R s m args below meth co H locs cells slots Q (F0 m (pc + 3) ls (.ref (eA E 2) :: rest))) : W p l e R s m args below meth co H locs cells slots Q (F0 m pc ls (.ref (eA E 1) :: rest)) := fG F hI 1 (wX3 E u) rfl inlX3 0 (by decide) hL rfl rfl hdg kk
theorem gX3_oldest (F : Fx E p s m args meth co cc nL own ret) (hI : Iv E s H locs u) {idx : Nat} (hL : FLk own idx "ShareStreams$History" "oldest" "I") (hdg : decode cc pc = .ok (.getfield idx, 3)) (kk : W p l e R s m args below meth co H locs cells slots Q (F0 m (pc + 3) ls (.int (u.1 0 1) :: rest))) : W p l e R s m args below meth co H locs cells slots Q (F0 m pc ls (.ref (eA E 1) :: rest)) := fG F hI 1 (wX3 E u) rfl inlX3 1 (by decide) hL rfl rfl hdg kk
theorem sX3_oldest (E : EV) (u : SS) (v : Int32) : (wl E u).set 1 (eA E 1, .inr (3, ([.ref (eA E 2), .int (u.1 0 1), .int (u.1 0 2)] : List Value).set 1 (.int v))) = wl E (up u.1 0 1 v, u.2) := rfl
theorem pX3_oldest (F : Fx E p s m args meth co cc nL own ret) (hI : Iv E s H locs u) {idx : Nat} {v : Int32} (hL : FLk own idx "ShareStreams$History" "oldest" "I") (hdg : decode cc pc = .ok (.putfield idx, 3)) (kk : ∀ (H1 : Heap) (locs1 : List Loc), Iv E s H1 locs1 (up u.1 0 1 v, u.2) → W p l e R s m args below meth co H1 locs1 cells slots Q (F0 m (pc + 3) ls (rest))) : W p l e R s m args below meth co H locs cells slots Q (F0 m pc ls (.int v :: .ref (eA E 1) :: rest)) := fP F hI 1 (wX3 E u) rfl inlX3 tyX3 tyX3_ok nmX3 1 (by decide) hL rfl rfl rfl rfl (Nat.le_of_ble_eq_true rfl) (sX3_oldest E u v) hdg kk
theorem gX3_size (F : Fx E p s m args meth co cc nL own ret) (hI : Iv E s H locs u) {idx : Nat} (hL : FLk own idx "ShareStreams$History" "size" "I") (hdg : decode cc pc = .ok (.getfield idx, 3)) (kk : W p l e R s m args below meth co H locs cells slots Q (F0 m (pc + 3) ls (.int (u.1 0 2) :: rest))) : W p l e R s m args below meth co H locs cells slots Q (F0 m pc ls (.ref (eA E 1) :: rest)) := fG F hI 1 (wX3 E u) rfl inlX3 2 (by decide) hL rfl rfl hdg kk
theorem sX3_size (E : EV) (u : SS) (v : Int32) : (wl E u).set 1 (eA E 1, .inr (3, ([.ref (eA E 2), .int (u.1 0 1), .int (u.1 0 2)] : List Value).set 2 (.int v))) = wl E (up u.1 0 2 v, u.2) := rfl
theorem pX3_size (F : Fx E p s m args meth co cc nL own ret) (hI : Iv E s H locs u) {idx : Nat} {v : Int32} (hL : FLk own idx "ShareStreams$History" "size" "I") (hdg : decode cc pc = .ok (.putfield idx, 3)) (kk : ∀ (H1 : Heap) (locs1 : List Loc), Iv E s H1 locs1 (up u.1 0 2 v, u.2) → W p l e R s m args below meth co H1 locs1 cells slots Q (F0 m (pc + 3) ls (rest))) : W p l e R s m args below meth co H locs cells slots Q (F0 m pc ls (.int v :: .ref (eA E 1) :: rest)) := fP F hI 1 (wX3 E u) rfl inlX3 tyX3 tyX3_ok nmX3 2 (by decide) hL rfl rfl rfl rfl (Nat.le_of_ble_eq_true rfl) (sX3_size E u v) hdg kk
theorem wX4 (E : EV) (u : SS) : (wl E u)[9]? = some (eA E 9, .inr (4, [.ref (eA E 31)])) := rfl
theorem gX4_rows (F : Fx E p s m args meth co cc nL own ret) (hI : Iv E s H locs u) {idx : Nat} (hL : FLk own idx "ShareStreams$Streams" "rows" "[[J") (hdg : decode cc pc = .ok (.getfield idx, 3)) (kk : W p l e R s m args below meth co H locs cells slots Q (F0 m (pc + 3) ls (.ref (eA E 31) :: rest))) : W p l e R s m args below meth co H locs cells slots Q (F0 m pc ls (.ref (eA E 9) :: rest)) := fG F hI 9 (wX4 E u) rfl inlX4 0 (by decide) hL rfl rfl hdg kk
theorem wX5 (E : EV) (u : SS) : (wl E u)[0]? = some (eA E 0, .inr (5, [.ref (eA E 10), .ref (eA E 13), .int (u.1 0 0), .ref (eA E 16), .ref (eA E 1), .ref (eA E 3), .ref (eA E 5), .ref (eA E 9)])) := rfl
theorem gX5_bench (F : Fx E p s m args meth co cc nL own ret) (hI : Iv E s H locs u) {idx : Nat} (hL : FLk own idx "ShareStreams" "bench" "LShareStreams$Bench;") (hdg : decode cc pc = .ok (.getfield idx, 3)) (kk : W p l e R s m args below meth co H locs cells slots Q (F0 m (pc + 3) ls (.ref (eA E 10) :: rest))) : W p l e R s m args below meth co H locs cells slots Q (F0 m pc ls (.ref (eA E 0) :: rest)) := fG F hI 0 (wX5 E u) rfl inlX5 0 (by decide) hL rfl rfl hdg kk
theorem gX5_snapshot (F : Fx E p s m args meth co cc nL own ret) (hI : Iv E s H locs u) {idx : Nat} (hL : FLk own idx "ShareStreams" "snapshot" "LShareStreams$Bench;") (hdg : decode cc pc = .ok (.getfield idx, 3)) (kk : W p l e R s m args below meth co H locs cells slots Q (F0 m (pc + 3) ls (.ref (eA E 13) :: rest))) : W p l e R s m args below meth co H locs cells slots Q (F0 m pc ls (.ref (eA E 0) :: rest)) := fG F hI 0 (wX5 E u) rfl inlX5 1 (by decide) hL rfl rfl hdg kk
theorem gX5_hasSnapshot (F : Fx E p s m args meth co cc nL own ret) (hI : Iv E s H locs u) {idx : Nat} (hL : FLk own idx "ShareStreams" "hasSnapshot" "Z") (hdg : decode cc pc = .ok (.getfield idx, 3)) (kk : W p l e R s m args below meth co H locs cells slots Q (F0 m (pc + 3) ls (.int (u.1 0 0) :: rest))) : W p l e R s m args below meth co H locs cells slots Q (F0 m pc ls (.ref (eA E 0) :: rest)) := fG F hI 0 (wX5 E u) rfl inlX5 2 (by decide) hL rfl rfl hdg kk
theorem sX5_hasSnapshot (E : EV) (u : SS) (v : Int32) : (wl E u).set 0 (eA E 0, .inr (5, ([.ref (eA E 10), .ref (eA E 13), .int (u.1 0 0), .ref (eA E 16), .ref (eA E 1), .ref (eA E 3), .ref (eA E 5), .ref (eA E 9)] : List Value).set 2 (.int v))) = wl E (up u.1 0 0 v, u.2) := rfl
theorem pX5_hasSnapshot (F : Fx E p s m args meth co cc nL own ret) (hI : Iv E s H locs u) {idx : Nat} {v : Int32} (hz : narrow .boolean (.int v) = .int v) (hz2 : fits .boolean (.int v) = true) (hL : FLk own idx "ShareStreams" "hasSnapshot" "Z") (hdg : decode cc pc = .ok (.putfield idx, 3)) (kk : ∀ (H1 : Heap) (locs1 : List Loc), Iv E s H1 locs1 (up u.1 0 0 v, u.2) → W p l e R s m args below meth co H1 locs1 cells slots Q (F0 m (pc + 3) ls (rest))) : W p l e R s m args below meth co H locs cells slots Q (F0 m pc ls (.int v :: .ref (eA E 0) :: rest)) := fP F hI 0 (wX5 E u) rfl inlX5 tyX5 tyX5_ok nmX5 2 (by decide) hL rfl rfl hz hz2 (Nat.le_of_ble_eq_true rfl) (sX5_hasSnapshot E u v) hdg kk
theorem gX5_spare (F : Fx E p s m args meth co cc nL own ret) (hI : Iv E s H locs u) {idx : Nat} (hL : FLk own idx "ShareStreams" "spare" "LShareStreams$Bench;") (hdg : decode cc pc = .ok (.getfield idx, 3)) (kk : W p l e R s m args below meth co H locs cells slots Q (F0 m (pc + 3) ls (.ref (eA E 16) :: rest))) : W p l e R s m args below meth co H locs cells slots Q (F0 m pc ls (.ref (eA E 0) :: rest)) := fG F hI 0 (wX5 E u) rfl inlX5 3 (by decide) hL rfl rfl hdg kk
theorem gX5_history (F : Fx E p s m args meth co cc nL own ret) (hI : Iv E s H locs u) {idx : Nat} (hL : FLk own idx "ShareStreams" "history" "LShareStreams$History;") (hdg : decode cc pc = .ok (.getfield idx, 3)) (kk : W p l e R s m args below meth co H locs cells slots Q (F0 m (pc + 3) ls (.ref (eA E 1) :: rest))) : W p l e R s m args below meth co H locs cells slots Q (F0 m pc ls (.ref (eA E 0) :: rest)) := fG F hI 0 (wX5 E u) rfl inlX5 4 (by decide) hL rfl rfl hdg kk
theorem gX5_text (F : Fx E p s m args meth co cc nL own ret) (hI : Iv E s H locs u) {idx : Nat} (hL : FLk own idx "ShareStreams" "text" "LShareStreams$CircuitText;") (hdg : decode cc pc = .ok (.getfield idx, 3)) (kk : W p l e R s m args below meth co H locs cells slots Q (F0 m (pc + 3) ls (.ref (eA E 3) :: rest))) : W p l e R s m args below meth co H locs cells slots Q (F0 m pc ls (.ref (eA E 0) :: rest)) := fG F hI 0 (wX5 E u) rfl inlX5 5 (by decide) hL rfl rfl hdg kk
theorem gX5_figures (F : Fx E p s m args meth co cc nL own ret) (hI : Iv E s H locs u) {idx : Nat} (hL : FLk own idx "ShareStreams" "figures" "LShareStreams$Figures;") (hdg : decode cc pc = .ok (.getfield idx, 3)) (kk : W p l e R s m args below meth co H locs cells slots Q (F0 m (pc + 3) ls (.ref (eA E 5) :: rest))) : W p l e R s m args below meth co H locs cells slots Q (F0 m pc ls (.ref (eA E 0) :: rest)) := fG F hI 0 (wX5 E u) rfl inlX5 6 (by decide) hL rfl rfl hdg kk
theorem gX5_streams (F : Fx E p s m args meth co cc nL own ret) (hI : Iv E s H locs u) {idx : Nat} (hL : FLk own idx "ShareStreams" "streams" "LShareStreams$Streams;") (hdg : decode cc pc = .ok (.getfield idx, 3)) (kk : W p l e R s m args below meth co H locs cells slots Q (F0 m (pc + 3) ls (.ref (eA E 9) :: rest))) : W p l e R s m args below meth co H locs cells slots Q (F0 m pc ls (.ref (eA E 0) :: rest)) := fG F hI 0 (wX5 E u) rfl inlX5 7 (by decide) hL rfl rfl hdg kk
theorem iK {b : Nat} (hb : b < 7) : IsI (11 + 3 * b) (20 + b) 16 := fun E u => ⟨by
  match b, hb with
  | 0, _ => rfl
  | 1, _ => rfl
  | 2, _ => rfl
  | 3, _ => rfl
  | 4, _ => rfl
  | 5, _ => rfl
  | 6, _ => rfl
  | n + 7, h => exact absurd h (by omega), fun i x => by
  match b, hb with
  | 0, _ => rfl
  | 1, _ => rfl
  | 2, _ => rfl
  | 3, _ => rfl
  | 4, _ => rfl
  | 5, _ => rfl
  | 6, _ => rfl
  | n + 7, h => exact absurd h (by omega)⟩
theorem iN {b : Nat} (hb : b < 7) : IsI (12 + 3 * b) (30 + b) 48 := fun E u => ⟨by
  match b, hb with
  | 0, _ => rfl
  | 1, _ => rfl
  | 2, _ => rfl
  | 3, _ => rfl
  | 4, _ => rfl
  | 5, _ => rfl
  | 6, _ => rfl
  | n + 7, h => exact absurd h (by omega), fun i x => by
  match b, hb with
  | 0, _ => rfl
  | 1, _ => rfl
  | 2, _ => rfl
  | 3, _ => rfl
  | 4, _ => rfl
  | 5, _ => rfl
  | 6, _ => rfl
  | n + 7, h => exact absurd h (by omega)⟩
theorem iRow {b : Nat} (hb : b < 16) : IsL (32 + b) b := fun E u => ⟨by
  match b, hb with
  | 0, _ => rfl
  | 1, _ => rfl
  | 2, _ => rfl
  | 3, _ => rfl
  | 4, _ => rfl
  | 5, _ => rfl
  | 6, _ => rfl
  | 7, _ => rfl
  | 8, _ => rfl
  | 9, _ => rfl
  | 10, _ => rfl
  | 11, _ => rfl
  | 12, _ => rfl
  | 13, _ => rfl
  | 14, _ => rfl
  | 15, _ => rfl
  | n + 16, h => exact absurd h (by omega), fun i x => by
  match b, hb with
  | 0, _ => rfl
  | 1, _ => rfl
  | 2, _ => rfl
  | 3, _ => rfl
  | 4, _ => rfl
  | 5, _ => rfl
  | 6, _ => rfl
  | 7, _ => rfl
  | 8, _ => rfl
  | 9, _ => rfl
  | 10, _ => rfl
  | 11, _ => rfl
  | 12, _ => rfl
  | 13, _ => rfl
  | 14, _ => rfl
  | 15, _ => rfl
  | n + 16, h => exact absurd h (by omega)⟩
theorem iX2_exactShares : IsI 6 3 16 := fun _ _ => ⟨rfl, fun _ _ => rfl⟩
theorem iX2_depths : IsI 7 4 16 := fun _ _ => ⟨rfl, fun _ _ => rfl⟩
theorem iX2_origins : IsI 8 5 16 := fun _ _ => ⟨rfl, fun _ _ => rfl⟩
theorem rX0 (F : Fx E p s m args meth co cc nL own ret) (hI : Iv E s H locs u) {b : Nat} (hb : b < 7) : ∃ cell : Cell, H[eA E (10 + 3 * b)]? = some cell ∧ cell.vm.isStatics = false ∧ s.vm.findClass RX0 = some cell.cls := va_recv F.2.2.2.2.2.1.1 hI.1.1 (ci := 0) (q := (RX0, TX0, 4)) rfl (wB E u hb)
theorem rX5 (F : Fx E p s m args meth co cc nL own ret) (hI : Iv E s H locs u) : ∃ cell : Cell, H[eA E 0]? = some cell ∧ cell.vm.isStatics = false ∧ s.vm.findClass RX5 = some cell.cls := va_recv F.2.2.2.2.2.1.1 hI.1.1 (ci := 5) (q := (RX5, TX5, 8)) rfl (wX5 E u)
theorem rX3 (F : Fx E p s m args meth co cc nL own ret) (hI : Iv E s H locs u) : ∃ cell : Cell, H[eA E 1]? = some cell ∧ cell.vm.isStatics = false ∧ s.vm.findClass RX3 = some cell.cls := va_recv F.2.2.2.2.2.1.1 hI.1.1 (ci := 3) (q := (RX3, TX3, 3)) rfl (wX3 E u)
theorem rX1 (F : Fx E p s m args meth co cc nL own ret) (hI : Iv E s H locs u) : ∃ cell : Cell, H[eA E 3]? = some cell ∧ cell.vm.isStatics = false ∧ s.vm.findClass RX1 = some cell.cls := va_recv F.2.2.2.2.2.1.1 hI.1.1 (ci := 1) (q := (RX1, TX1, 3)) rfl (wX1 E u)
theorem rX2 (F : Fx E p s m args meth co cc nL own ret) (hI : Iv E s H locs u) : ∃ cell : Cell, H[eA E 5]? = some cell ∧ cell.vm.isStatics = false ∧ s.vm.findClass RX2 = some cell.cls := va_recv F.2.2.2.2.2.1.1 hI.1.1 (ci := 2) (q := (RX2, TX2, 3)) rfl (wX2 E u)
theorem rX4 (F : Fx E p s m args meth co cc nL own ret) (hI : Iv E s H locs u) : ∃ cell : Cell, H[eA E 9]? = some cell ∧ cell.vm.isStatics = false ∧ s.vm.findClass RX4 = some cell.cls := va_recv F.2.2.2.2.2.1.1 hI.1.1 (ci := 4) (q := (RX4, TX4, 1)) rfl (wX4 E u)
theorem xV {As : List Value} {b : Nat} {C : String} {y : MethodName} {bytes : ByteArray} {maxL n idx f k : Nat} {ret' : Option FieldType} {Qc : Array Value → State → Outcome → State → Prop} {lv : List (Nat × Value)} (F : Fx E p s m args meth co cc nL own ret) (hI : Iv E s H locs u) (hl : lv_has ls nL lv) (hM : CT l y bytes maxL ret' (Rm f k) (.ref b :: As) E u Qc) (hL : LkV own idx C y bytes maxL ret' n) (hr : ∃ cell : Cell, H[b]? = some cell ∧ cell.vm.isStatics = false ∧ s.vm.findClass C = some cell.cls) (hn : As.length = n) (hR : f + 1 ≤ R.frames ∧ 8 + (maxL + 11) + k ≤ R.locals) (hf : cells ≤ R.cells ∧ slots ≤ R.slots) (hst : st = As.reverse ++ .ref b :: rest) (hW : (rest.map fun v => v.category).sum ≤ 8) (hdg : decode cc pc = .ok (.invokevirtual idx, 3)) :
    va_Run p l e R s m args below meth co H locs cells slots 0 0 (F0 m pc ls st) rest (Qc (Value.ref b :: As).toArray) (eR E) := by
  obtain ⟨⟨hl1, h2, h3, h4, h5, h6⟩, h7, h8⟩ := hL
  have ht := F.2.2.2.2.1
  have hp : PreV s H C b (va_Pc (.ref b :: As) (Pre E u)) As := ⟨Pre.blind, hr, fun U hU hW => ⟨rfl, by rw [hU]; exact hI.1, F.2.2.2.2.2.1.step hI.2 hU hW⟩⟩
  rcases hl1 with h1 | ⟨host, h1⟩
  · exact va_runV ⟨F.1, F.2.1, F.2.2.1, F.2.2.2.1, ht⟩ hM ⟨callB_of n ht (gW_in h3) rfl rfl rfl (ht _ h2) (ht _ h1) ⟨h4, h5, h6⟩ hR, ht _ h7, ht _ h8⟩ hp rfl hn hl.1 hst (lv_room hW) hdg hf
  · exact va_runVN ⟨F.1, F.2.1, F.2.2.1, F.2.2.2.1, ht⟩ hM ⟨va_cnB n ht (gW_in h3) rfl rfl rfl (F.2.2.2.2.2.1.2.1 _ h1) (ht _ h2) ⟨h4, h5, h6⟩ hR, ht _ h7, ht _ h8⟩ hp rfl hn hl.1 hst (lv_room hW) hdg hf
theorem xS {As : List Value} {y : MethodName} {bytes : ByteArray} {maxL n idx f k : Nat} {ret' : Option FieldType} {Qc : Array Value → State → Outcome → State → Prop} {lv : List (Nat × Value)} (F : Fx E p s m args meth co cc nL own ret) (hI : Iv E s H locs u) (hl : lv_has ls nL lv) (hM : CT l y bytes maxL ret' (Rm f k) As E u Qc) (hL : LkS own idx y bytes maxL ret' n) (hn : As.length = n) (hR : f + 1 ≤ R.frames ∧ 8 + (maxL + 11) + k ≤ R.locals) (hf : cells ≤ R.cells ∧ slots ≤ R.slots) (hst : st = As.reverse ++ rest) (hW : (rest.map fun v => v.category).sum ≤ 8) (hdg : decode cc pc = .ok (.invokestatic idx, 3)) :
    va_Run p l e R s m args below meth co H locs cells slots 0 0 (F0 m pc ls st) rest (Qc As.toArray) (eR E) := by
  obtain ⟨⟨hl1, h2, h3, h4, h5, h6⟩, h7⟩ := hL
  have ht := F.2.2.2.2.1
  have hp : PreS s H (va_Pc As (Pre E u)) As := ⟨Pre.blind, fun U hU hW => ⟨rfl, by rw [hU]; exact hI.1, F.2.2.2.2.2.1.step hI.2 hU hW⟩⟩
  rcases hl1 with h1 | ⟨host, h1⟩
  · exact va_runS ⟨F.1, F.2.1, F.2.2.1, F.2.2.2.1, ht⟩ hM ⟨callB_of n ht (gW_in h3) rfl rfl rfl (ht _ h2) (ht _ h1) ⟨h4, h5, h6⟩ hR, ht _ h7⟩ hp rfl hn hl.1 hst (lv_room hW) hdg hf
  · exact va_runSN ⟨F.1, F.2.1, F.2.2.1, F.2.2.2.1, ht⟩ hM ⟨va_cnB n ht (gW_in h3) rfl rfl rfl (F.2.2.2.2.2.1.2.1 _ h1) (ht _ h2) ⟨h4, h5, h6⟩ hR, ht _ h7, trivial⟩ hp rfl hn hl.1 hst (lv_room hW) hdg hf
theorem zI {S : Type} {post : Int32 → S → Prop} {emb : S → SS} {a : Array Value} (hI : Iv E s H locs u) (hr : va_Run p l e R s m args below meth co H locs cells slots 0 0 (F0 m pc ls st) rest (Q_i E post emb a) (eR E)) (kk : ∀ (r : Int32) (v : S) (H1 : Heap) (locs1 : List Loc), Iv E s H1 locs1 (emb v) → post r v → W p l e R s m args below meth co H1 locs1 cells slots Q (F0 m (pc + 3) ls (.int r :: rest))) : W p l e R s m args below meth co H locs cells slots Q (F0 m pc ls (st)) :=
  va_calli hr hI.2 (fun _ _ h => h) (fun _ h => h) (fun r v t H1 locs1 ht _ hp hB _ _ hS => kk r v H1 locs1 ⟨by rw [← ht]; exact hB, hS⟩ hp)
theorem zL {S : Type} {post : Int64 → S → Prop} {emb : S → SS} {a : Array Value} (hI : Iv E s H locs u) (hr : va_Run p l e R s m args below meth co H locs cells slots 0 0 (F0 m pc ls st) rest (Q_l E post emb a) (eR E)) (kk : ∀ (r : Int64) (v : S) (H1 : Heap) (locs1 : List Loc), Iv E s H1 locs1 (emb v) → post r v → W p l e R s m args below meth co H1 locs1 cells slots Q (F0 m (pc + 3) ls (.long r :: rest))) : W p l e R s m args below meth co H locs cells slots Q (F0 m pc ls (st)) :=
  va_calll hr hI.2 (fun _ _ h => h) (fun _ h => h) (fun r v t H1 locs1 ht _ hp hB _ _ hS => kk r v H1 locs1 ⟨by rw [← ht]; exact hB, hS⟩ hp)
theorem zV {S : Type} {post : S → Prop} {emb : S → SS} {a : Array Value} (hI : Iv E s H locs u) (hr : va_Run p l e R s m args below meth co H locs cells slots 0 0 (F0 m pc ls st) rest (Q_v E post emb a) (eR E)) (kk : ∀ (v : S) (H1 : Heap) (locs1 : List Loc), Iv E s H1 locs1 (emb v) → post v → W p l e R s m args below meth co H1 locs1 cells slots Q (F0 m (pc + 3) ls (rest))) : W p l e R s m args below meth co H locs cells slots Q (F0 m pc ls (st)) :=
  va_callv hr hI.2 (fun _ _ h => h) (fun _ h => h) (fun v t H1 locs1 ht _ hp hB _ _ hS => kk v H1 locs1 ⟨by rw [← ht]; exact hB, hS⟩ hp)
theorem zQ {S : Type} {post : Option Nat → S → Prop} {emb : S → SS} {a : Array Value} (hI : Iv E s H locs u) (hr : va_Run p l e R s m args below meth co H locs cells slots 0 0 (F0 m pc ls st) rest (Q_q E post emb a) (eR E)) (kk : ∀ (r : Option Nat) (v : S) (H1 : Heap) (locs1 : List Loc), Iv E s H1 locs1 (emb v) → post r v → W p l e R s m args below meth co H1 locs1 cells slots Q (F0 m (pc + 3) ls (va_rf r :: rest))) : W p l e R s m args below meth co H locs cells slots Q (F0 m pc ls (st)) :=
  va_callq hr hI.2 (fun _ _ h => h) (fun _ h => h) (fun r v t H1 locs1 ht _ hp hB _ _ hS => kk r v H1 locs1 ⟨by rw [← ht]; exact hB, hS⟩ hp)
theorem zc (F : Fx E p s m args meth co cc nL own ret) {idx : Nat} {v : Int32} (hK : Cond.constant own idx v ∈ gW) (hdg : decode cc pc = .ok (.ldc idx, 2)) (k : W p l e R s m args below meth co H locs cells slots Q (F0 m (pc + 2) ls (.int v :: rest))) : W p l e R s m args below meth co H locs cells slots Q (F0 m pc ls (rest)) := lv_ldc F.1 F.2.1 F.2.2.2.1 (F.2.2.2.2.1 _ hK) hdg k
theorem zcl (F : Fx E p s m args meth co cc nL own ret) {idx : Nat} {v : Int64} (hK : Cond.constantLong own idx v ∈ gW) (hdg : decode cc pc = .ok (.ldc2_w idx, 3)) (k : W p l e R s m args below meth co H locs cells slots Q (F0 m (pc + 3) ls (.long v :: rest))) : W p l e R s m args below meth co H locs cells slots Q (F0 m pc ls (rest)) := lv_ldc2 F.1 F.2.1 F.2.2.2.1 (F.2.2.2.2.1 _ hK) hdg k
theorem tI {x y : Int32} (h : x = y) (k : W p l e R s m args below meth co H locs cells slots Q (F0 m pc ls (.int y :: rest))) : W p l e R s m args below meth co H locs cells slots Q (F0 m pc ls (.int x :: rest)) := h ▸ k
theorem tL {x y : Int64} (h : x = y) (k : W p l e R s m args below meth co H locs cells slots Q (F0 m pc ls (.long y :: rest))) : W p l e R s m args below meth co H locs cells slots Q (F0 m pc ls (.long x :: rest)) := h ▸ k
theorem t2 {x y : Int32} {w : Value} (h : x = y) (k : W p l e R s m args below meth co H locs cells slots Q (F0 m pc ls (w :: .int y :: rest))) : W p l e R s m args below meth co H locs cells slots Q (F0 m pc ls (w :: .int x :: rest)) := h ▸ k
theorem j_max : Cond.static Lib.Math.max.name ∈ gW ∧ Cond.initialized "java/lang/Math" ∈ gW ∧ Cond.code Lib.Math.max.name Lib.Math.max.code 2 (some .int) ∈ gW := ⟨gW_t (by decide +kernel) (by decide +kernel), gW_t (by decide +kernel) (by decide +kernel), gW_t (by decide +kernel) (by decide +kernel)⟩
theorem zm_max (F : Fx E p s m args meth co cc nL own ret) {idx : Nat} {x y : Int32} {lv : List (Nat × Value)} (hl : lv_has ls nL lv) (hK : Cond.methodLink own idx Lib.Math.max.name ∈ gW) (hR : 1 ≤ R.frames ∧ (rest.map fun v => v.category).sum + 13 ≤ R.locals) (hf : cells ≤ R.cells ∧ slots ≤ R.slots) (hdg : decode cc pc = .ok (.invokestatic idx, 3)) (k : W p l e R s m args below meth co H locs cells slots Q (F0 m (pc + 3) ls (.int (if x < y then y else x) :: rest))) : W p l e R s m args below meth co H locs cells slots Q (F0 m pc ls (.int y :: .int x :: rest)) := va_mmax F.1 F.2.1 (F.2.2.1.trans hl.1.symm) F.2.2.2.1 (F.2.2.2.2.1 _ hK) (F.2.2.2.2.1 _ j_max.1) (F.2.2.2.2.1 _ j_max.2.1) (F.2.2.2.2.1 _ j_max.2.2) hR.1 hR.2 hf.1 hf.2 hdg k
theorem j_abs : Cond.static Lib.Math.abs.name ∈ gW ∧ Cond.initialized "java/lang/Math" ∈ gW ∧ Cond.code Lib.Math.abs.name Lib.Math.abs.code 1 (some .int) ∈ gW := ⟨gW_t (by decide +kernel) (by decide +kernel), gW_t (by decide +kernel) (by decide +kernel), gW_t (by decide +kernel) (by decide +kernel)⟩
theorem zm_abs (F : Fx E p s m args meth co cc nL own ret) {idx : Nat} {x : Int32} {lv : List (Nat × Value)} (hl : lv_has ls nL lv) (hK : Cond.methodLink own idx Lib.Math.abs.name ∈ gW) (hR : 1 ≤ R.frames ∧ (rest.map fun v => v.category).sum + 13 ≤ R.locals) (hf : cells ≤ R.cells ∧ slots ≤ R.slots) (hdg : decode cc pc = .ok (.invokestatic idx, 3)) (k : W p l e R s m args below meth co H locs cells slots Q (F0 m (pc + 3) ls (.int (if 0 ≤ x then x else 0 - x) :: rest))) : W p l e R s m args below meth co H locs cells slots Q (F0 m pc ls (.int x :: rest)) := va_mabs F.1 F.2.1 (F.2.2.1.trans hl.1.symm) F.2.2.2.1 (F.2.2.2.2.1 _ hK) (F.2.2.2.2.1 _ j_abs.1) (F.2.2.2.2.1 _ j_abs.2.1) (F.2.2.2.2.1 _ j_abs.2.2) hR.1 hR.2 hf.1 hf.2 hdg k
theorem gT0 (F : Fx E p s m args meth co cc nL own ret) (hI : Iv E s H locs u) {idx : Nat} (hL : Cond.fieldLink own idx "ShareStreams" "NUMBERS_OF_KIND" "[I" ∈ gW) (hdg : decode cc pc = .ok (.getstatic idx, 3)) (k : W p l e R s m args below meth co H locs cells slots Q (F0 m (pc + 3) ls (.ref (eS E 0) :: rest))) : W p l e R s m args below meth co H locs cells slots Q (F0 m pc ls (rest)) := va_gets (ref := "ShareStreams") F.1 F.2.1 F.2.2.2.2.2.1.2.2.1.1 hI.2 F.2.2.2.1 (F.2.2.2.2.1 _ hL) (fun _ h => h) hdg k
theorem tT0 (F : Fx E p s m args meth co cc nL own ret) (hI : Iv E s H locs u) {i : Nat} (hin : i < 7) (hdg : decode cc pc = .ok (.iaload, 1)) (k : W p l e R s m args below meth co H locs cells slots Q (F0 m (pc + 1) ls (.int (tblF 0 i) :: rest))) : W p l e R s m args below meth co H locs cells slots Q (F0 m pc ls (.int (nI i) :: .ref (eS E 0) :: rest)) := va_ti F.1 F.2.1 F.2.2.2.2.2.1.2.2.1.2 hI.2 (nI_arr hin (by decide)).1 (by rw [(nI_arr hin (by decide)).2]) hdg k
theorem nT0 (F : Fx E p s m args meth co cc nL own ret) (hI : Iv E s H locs u) (hdg : decode cc pc = .ok (.arraylength, 1)) (k : W p l e R s m args below meth co H locs cells slots Q (F0 m (pc + 1) ls (.int (nI 7) :: rest))) : W p l e R s m args below meth co H locs cells slots Q (F0 m pc ls (.ref (eS E 0) :: rest)) := va_tlen F.1 F.2.1 F.2.2.2.2.2.1.2.2.1.2 hI.2 rfl hdg k
theorem gT1 (F : Fx E p s m args meth co cc nL own ret) (hI : Iv E s H locs u) {idx : Nat} (hL : Cond.fieldLink own idx "ShareStreams" "LINES_OF_KIND" "[I" ∈ gW) (hdg : decode cc pc = .ok (.getstatic idx, 3)) (k : W p l e R s m args below meth co H locs cells slots Q (F0 m (pc + 3) ls (.ref (eS E 1) :: rest))) : W p l e R s m args below meth co H locs cells slots Q (F0 m pc ls (rest)) := va_gets (ref := "ShareStreams") F.1 F.2.1 F.2.2.2.2.2.1.2.2.2.1.1 hI.2 F.2.2.2.1 (F.2.2.2.2.1 _ hL) (fun _ h => h) hdg k
theorem tT1 (F : Fx E p s m args meth co cc nL own ret) (hI : Iv E s H locs u) {i : Nat} (hin : i < 7) (hdg : decode cc pc = .ok (.iaload, 1)) (k : W p l e R s m args below meth co H locs cells slots Q (F0 m (pc + 1) ls (.int (tblF 1 i) :: rest))) : W p l e R s m args below meth co H locs cells slots Q (F0 m pc ls (.int (nI i) :: .ref (eS E 1) :: rest)) := va_ti F.1 F.2.1 F.2.2.2.2.2.1.2.2.2.1.2 hI.2 (nI_arr hin (by decide)).1 (by rw [(nI_arr hin (by decide)).2]) hdg k
theorem nT1 (F : Fx E p s m args meth co cc nL own ret) (hI : Iv E s H locs u) (hdg : decode cc pc = .ok (.arraylength, 1)) (k : W p l e R s m args below meth co H locs cells slots Q (F0 m (pc + 1) ls (.int (nI 7) :: rest))) : W p l e R s m args below meth co H locs cells slots Q (F0 m pc ls (.ref (eS E 1) :: rest)) := va_tlen F.1 F.2.1 F.2.2.2.2.2.1.2.2.2.1.2 hI.2 rfl hdg k
end LKS
end
section
/-! numbers: elements, ranges -/
theorem il (a b : Int32) : a < b ↔ a.toInt < b.toInt := Int32.lt_iff_toInt_lt
theorem ile (a b : Int32) : a ≤ b ↔ a.toInt ≤ b.toInt := Int32.le_iff_toInt_le
theorem nT {n : Nat} (h : n < 2 ^ 31) : (nI n).toInt = (n : Int) := nI_toInt h
theorem ext32 {a b : Int32} (h : a.toInt = b.toInt) : a = b := Int32.toInt_inj.mp h
theorem mx_nI {a b : Nat} (ha : a < 2 ^ 31) (hb : b < 2 ^ 31) : (if nI a < nI b then nI b else nI a) = nI (max a b) := by
  by_cases h : a < b
  · rw [if_pos ((nI_ltI ha hb).mpr h), Nat.max_eq_right (by omega)]
  · rw [if_neg (fun q => h ((nI_ltI ha hb).mp q)), Nat.max_eq_left (by omega)]
theorem clT {x : Int32} (h : 0 ≤ x.toInt) : (x.toNatClampNeg : Int) = x.toInt := by
  show ((x.toInt.toNat : Nat) : Int) = x.toInt
  omega
theorem vp_lt {x : Int32} {n : Nat} (h0 : ¬ x < 0) (h : x < nI n) (hn : n < 2 ^ 31) : vp_in x n := by
  rw [vp_in_iff]
  rw [il, nT hn] at h
  rw [il] at h0
  have e : (0 : Int32).toInt = 0 := rfl
  omega
def el (n : Nat) (f : Nat → Int32) (x : Int32) : Int32 := if x < 0 ∨ nI n ≤ x then 0 else f x.toNatClampNeg
def stE (c : CF) (r n : Nat) (x v : Int32) : CF := if x < 0 ∨ nI n ≤ x then c else up c r x.toNatClampNeg v
theorem nI_nn {i : Nat} (hi : i < 2 ^ 31) : ¬ nI i < 0 := nI_pos hi
theorem el_lt {n : Nat} {f : Nat → Int32} {i : Nat} (h : i < n) (hn : n < 2 ^ 31) : el n f (nI i) = f i := by
  unfold el
  rw [if_neg, nI_clamp (by omega)]
  rintro (q | q)
  · exact nI_pos (by omega) q
  · exact nI_ge h hn q
theorem el_ge {n : Nat} {f : Nat → Int32} {i : Nat} (h : n ≤ i) (hi : i < 2 ^ 31) : el n f (nI i) = 0 := by
  unfold el
  rw [if_pos (Or.inr (nI_le h hi))]
theorem stE_lt {c : CF} {r n i : Nat} {v : Int32} (h : i < n) (hn : n < 2 ^ 31) : stE c r n (nI i) v = up c r i v := by
  unfold stE
  rw [if_neg, nI_clamp (by omega)]
  rintro (q | q)
  · exact nI_pos (by omega) q
  · exact nI_ge h hn q
/-- an argument as a line of n, as a number from a to b -/
def ixO (n : Nat) (x : Int32) : Option Nat := if 0 ≤ x ∧ x < nI n then some x.toNatClampNeg else none
def rgO (a b : Nat) (x : Int32) : Option Nat := if nI a ≤ x ∧ x ≤ nI b then some x.toNatClampNeg else none
theorem ixO_none {n : Nat} {x : Int32} (h : ¬ (0 ≤ x ∧ x < nI n)) : ixO n x = none := if_neg h
theorem x_nI {x : Int32} (h : ¬ x < 0) : x = nI x.toNatClampNeg := by
  apply ext32
  have h2 : 0 ≤ x.toInt := by
    rw [il] at h
    have e : (0 : Int32).toInt = 0 := rfl
    omega
  have h3 := clT h2
  have h4 := x.toInt_lt
  rw [nT (by omega)]
  omega
theorem ixO_some {n : Nat} (hn : n < 2 ^ 31) {x : Int32} (h : 0 ≤ x ∧ x < nI n) : ∃ j, j < n ∧ x = nI j ∧ ixO n x = some j := by
  have h0 : ¬ x < 0 := by
    have h1 := h.1
    rw [ile] at h1
    rw [il]
    omega
  have hx := x_nI h0
  have h2 := h.2
  refine ⟨x.toNatClampNeg, ?_, hx, if_pos h⟩
  have h3 : (x.toNatClampNeg : Int) = x.toInt := clT (by rw [il] at h0; have e : (0 : Int32).toInt = 0 := rfl; omega)
  rw [il, nT hn] at h2
  omega
theorem ixO_cases (n : Nat) (x : Int32) (hn : n < 2 ^ 31) : ixO n x = none ∨ ∃ j, j < n ∧ x = nI j ∧ ixO n x = some j := by
  by_cases h : 0 ≤ x ∧ x < nI n
  · exact Or.inr (ixO_some hn h)
  · exact Or.inl (ixO_none h)
theorem rgO_none {a b : Nat} {x : Int32} (h : ¬ (nI a ≤ x ∧ x ≤ nI b)) : rgO a b x = none := if_neg h
theorem rgO_some {a b : Nat} (ha : a < 2 ^ 31) (hb : b < 2 ^ 31) {x : Int32} (h : nI a ≤ x ∧ x ≤ nI b) : ∃ j, a ≤ j ∧ j ≤ b ∧ x = nI j ∧ rgO a b x = some j := by
  have h1 := h.1
  have h2 := h.2
  rw [ile, nT ha] at h1
  rw [ile, nT hb] at h2
  have h0 : ¬ x < 0 := by
    rw [il]
    have e : (0 : Int32).toInt = 0 := rfl
    omega
  have h3 : (x.toNatClampNeg : Int) = x.toInt := clT (by omega)
  exact ⟨x.toNatClampNeg, by omega, by omega, x_nI h0, if_pos h⟩
theorem rgO_cases (a b : Nat) (x : Int32) (ha : a < 2 ^ 31) (hb : b < 2 ^ 31) : rgO a b x = none ∨ ∃ j, a ≤ j ∧ j ≤ b ∧ x = nI j ∧ rgO a b x = some j := by
  by_cases h : nI a ≤ x ∧ x ≤ nI b
  · exact Or.inr (rgO_some ha hb h)
  · exact Or.inl (rgO_none h)
def bI (b : Bool) : Int32 := if b then 1 else 0
theorem nle_lt {x y : Int32} (h : x < y) : ¬ y ≤ x := by rw [ile]; rw [il] at h; omega
theorem nlt_le {x y : Int32} (h : ¬ x < y) : y ≤ x := by rw [ile]; rw [il] at h; omega
theorem nle_lt' {x y : Int32} (h : ¬ x ≤ y) : y < x := by rw [il]; rw [ile] at h; omega
theorem nlt_of {x y : Int32} (h : x ≤ y) : ¬ y < x := by rw [il]; rw [ile] at h; omega
theorem narrow_b {r : Int32} (h : r = 0 ∨ r = 1) : narrow .boolean (.int r) = .int r := by rcases h with rfl | rfl <;> rfl
end
section
/-! ===== how many places have a property ===== -/
def fb_ct (p : Nat → Bool) : Nat → Nat
  | 0 => 0
  | n + 1 => fb_ct p n + (if p n then 1 else 0)
theorem fb_ct_succ (p : Nat → Bool) (n : Nat) : fb_ct p (n + 1) = fb_ct p n + (if p n then 1 else 0) := rfl
theorem fb_ct_le (p : Nat → Bool) : ∀ n, fb_ct p n ≤ n
  | 0 => Nat.le_refl _
  | n + 1 => by
    have h := fb_ct_le p n
    rw [fb_ct_succ]
    split <;> omega
theorem fb_ct_step (p : Nat → Bool) (m : Nat) : ∀ n, fb_ct p m ≤ fb_ct p (m + n)
  | 0 => Nat.le_refl _
  | n + 1 => by
    have h := fb_ct_step p m n
    show fb_ct p m ≤ fb_ct p (m + n + 1)
    rw [fb_ct_succ]
    omega
theorem fb_ct_mono (p : Nat → Bool) {m n : Nat} (h : m ≤ n) : fb_ct p m ≤ fb_ct p n := by
  have := fb_ct_step p m (n - m)
  rwa [Nat.add_sub_cancel' h] at this
theorem fb_ct_cong {p q : Nat → Bool} : ∀ {n : Nat}, (∀ k, k < n → p k = q k) → fb_ct p n = fb_ct q n
  | 0, _ => rfl
  | n + 1, h => by
    rw [fb_ct_succ, fb_ct_succ, fb_ct_cong (fun k hk => h k (by omega)), h n (by omega)]
/-- one place changed -/
theorem fb_ct_out (p : Nat → Bool) (b : Bool) {i n : Nat} (h : n ≤ i) : fb_ct (fun k => if k = i then b else p k) n = fb_ct p n :=
  fb_ct_cong fun k hk => if_neg (by omega)
theorem fb_ct_upd (p : Nat → Bool) (b : Bool) {i : Nat} : ∀ {n : Nat}, i < n → fb_ct (fun k => if k = i then b else p k) n + (if p i then 1 else 0) = fb_ct p n + (if b then 1 else 0)
  | 0, h => absurd h (Nat.not_lt_zero i)
  | n + 1, h => by
    rw [fb_ct_succ, fb_ct_succ]
    rcases Nat.lt_or_ge i n with q | q
    · have := fb_ct_upd p b q
      have e : (if n = i then b else p n) = p n := if_neg (by omega)
      rw [e]
      omega
    · have e : i = n := by omega
      subst e
      rw [fb_ct_out p b (Nat.le_refl _)]
      simp only [if_true]
      omega
theorem fb_ct_sub {p q : Nat → Bool} : ∀ {n : Nat}, (∀ k, k < n → p k = true → q k = true) → fb_ct p n ≤ fb_ct q n
  | 0, _ => Nat.le_refl _
  | n + 1, h => by
    have h1 := fb_ct_sub (n := n) (p := p) (q := q) (fun k hk => h k (by omega))
    have h2 := h n (by omega)
    rw [fb_ct_succ, fb_ct_succ]
    cases hp : p n <;> cases hq : q n <;> simp_all <;> omega
theorem fb_ct_or {p q : Nat → Bool} : ∀ {n : Nat}, (∀ k, k < n → ¬ (p k = true ∧ q k = true)) → fb_ct (fun k => p k || q k) n = fb_ct p n + fb_ct q n
  | 0, _ => rfl
  | n + 1, h => by
    have h1 := fb_ct_or (n := n) (p := p) (q := q) (fun k hk => h k (by omega))
    have h2 := h n (by omega)
    rw [fb_ct_succ, fb_ct_succ, fb_ct_succ, h1]
    cases hp : p n <;> cases hq : q n <;> simp_all <;> omega
theorem fb_ct_not (p : Nat → Bool) : ∀ n, fb_ct p n + fb_ct (fun k => !p k) n = n
  | 0 => rfl
  | n + 1 => by
    have h := fb_ct_not p n
    rw [fb_ct_succ, fb_ct_succ]
    cases p n <;> simp <;> omega
theorem fb_ct_split (p : Nat → Bool) (m : Nat) : ∀ n, fb_ct p (m + n) = fb_ct p m + fb_ct (fun k => p (m + k)) n
  | 0 => rfl
  | n + 1 => by
    have h := fb_ct_split p m n
    show fb_ct p (m + n + 1) = _
    rw [fb_ct_succ, fb_ct_succ, h, Nat.add_assoc]
theorem fb_ct_zero {p : Nat → Bool} : ∀ {n : Nat}, fb_ct p n = 0 ↔ ∀ k, k < n → p k = false
  | 0 => ⟨fun _ k hk => absurd hk (Nat.not_lt_zero k), fun _ => rfl⟩
  | n + 1 => by
    have h := fb_ct_zero (p := p) (n := n)
    rw [fb_ct_succ]
    constructor
    · intro e k hk
      have e1 : fb_ct p n = 0 := by omega
      rcases Nat.lt_or_ge k n with q | q
      · exact h.mp e1 k q
      · have ek : k = n := by omega
        subst ek
        cases hp : p k
        · rfl
        · simp [hp] at e
    · intro a
      rw [h.mpr (fun k hk => a k (by omega)), a n (by omega)]
      rfl
theorem fb_ct_pos {p : Nat → Bool} {n : Nat} : 0 < fb_ct p n ↔ ∃ k, k < n ∧ p k = true := by
  constructor
  · intro h
    refine Classical.byContradiction fun hx => ?_
    have := fb_ct_zero.mpr (fun k hk => by
      cases hp : p k
      · rfl
      · exact absurd ⟨k, hk, hp⟩ hx : ∀ k, k < n → p k = false)
    omega
  · rintro ⟨k, hk, hp⟩
    rcases Nat.eq_zero_or_pos (fb_ct p n) with e | e
    · have := fb_ct_zero.mp e k hk
      rw [this] at hp
      cases hp
    · exact e
theorem fb_ct_all {p : Nat → Bool} {n : Nat} : fb_ct p n = n ↔ ∀ k, k < n → p k = true := by
  have h := fb_ct_not p n
  constructor
  · intro e k hk
    have z : fb_ct (fun k => !p k) n = 0 := by omega
    have := fb_ct_zero.mp z k hk
    cases hp : p k
    · simp [hp] at this
    · rfl
  · intro a
    have z : fb_ct (fun k => !p k) n = 0 := fb_ct_zero.mpr (fun k hk => by simp [a k hk])
    omega
/-- the k-th place with the property -/
theorem fb_ct_kth {p : Nat → Bool} {k : Nat} : ∀ {n : Nat}, k < fb_ct p n → ∃ i, i < n ∧ p i = true ∧ fb_ct p i = k
  | 0, h => absurd h (Nat.not_lt_zero k)
  | n + 1, h => by
    rcases Nat.lt_or_ge k (fb_ct p n) with q | q
    · obtain ⟨i, h1, h2⟩ := fb_ct_kth q
      exact ⟨i, by omega, h2⟩
    · rw [fb_ct_succ] at h
      cases hp : p n
      · simp [hp] at h; omega
      · simp [hp] at h
        exact ⟨n, by omega, hp, by omega⟩
theorem fb_ct_kth_one {p : Nat → Bool} {i j : Nat} (hi : p i = true) (hj : p j = true) (e : fb_ct p i = fb_ct p j) : i = j := by
  have key : ∀ a b : Nat, a < b → p a = true → fb_ct p a < fb_ct p b := by
    intro a b hab ha
    have h := fb_ct_mono p (show a + 1 ≤ b from hab)
    rw [fb_ct_succ, ha] at h
    simp at h
    omega
  rcases Nat.lt_trichotomy i j with q | q | q
  · have := key i j q hi; omega
  · exact q
  · have := key j i q hj; omega
/-! ===== sums over a range: one place changed, parts, bounds ===== -/
def fb_sm (f : Nat → Nat) : Nat → Nat
  | 0 => 0
  | n + 1 => fb_sm f n + f n
theorem fb_sm_succ (f : Nat → Nat) (n : Nat) : fb_sm f (n + 1) = fb_sm f n + f n := rfl
theorem fb_sm_cong {f g : Nat → Nat} : ∀ {n : Nat}, (∀ k, k < n → f k = g k) → fb_sm f n = fb_sm g n
  | 0, _ => rfl
  | n + 1, h => by rw [fb_sm_succ, fb_sm_succ, fb_sm_cong (fun k hk => h k (by omega)), h n (by omega)]
theorem fb_sm_out (f : Nat → Nat) (v : Nat) {i n : Nat} (h : n ≤ i) : fb_sm (fun k => if k = i then v else f k) n = fb_sm f n :=
  fb_sm_cong fun k hk => if_neg (by omega)
theorem fb_sm_upd (f : Nat → Nat) (v : Nat) {i : Nat} : ∀ {n : Nat}, i < n → fb_sm (fun k => if k = i then v else f k) n + f i = fb_sm f n + v
  | 0, h => absurd h (Nat.not_lt_zero i)
  | n + 1, h => by
    rw [fb_sm_succ, fb_sm_succ]
    rcases Nat.lt_or_ge i n with q | q
    · have := fb_sm_upd f v q
      have e : (if n = i then v else f n) = f n := if_neg (by omega)
      rw [e]
      omega
    · have e : i = n := by omega
      subst e
      rw [fb_sm_out f v (Nat.le_refl _)]
      simp only [if_true]
      omega
theorem fb_sm_add (f g : Nat → Nat) : ∀ n, fb_sm (fun k => f k + g k) n = fb_sm f n + fb_sm g n
  | 0 => rfl
  | n + 1 => by
    have h := fb_sm_add f g n
    rw [fb_sm_succ, fb_sm_succ, fb_sm_succ, h]
    omega
theorem fb_sm_le {f g : Nat → Nat} : ∀ {n : Nat}, (∀ k, k < n → f k ≤ g k) → fb_sm f n ≤ fb_sm g n
  | 0, _ => Nat.le_refl _
  | n + 1, h => by
    have h1 := fb_sm_le (n := n) (f := f) (g := g) (fun k hk => h k (by omega))
    have h2 := h n (by omega)
    rw [fb_sm_succ, fb_sm_succ]
    omega
theorem fb_sm_const (c : Nat) : ∀ n, fb_sm (fun _ => c) n = n * c
  | 0 => by rw [Nat.zero_mul]; rfl
  | n + 1 => by rw [fb_sm_succ, fb_sm_const c n, Nat.succ_mul]
theorem fb_sm_bound {f : Nat → Nat} {c n : Nat} (h : ∀ k, k < n → f k ≤ c) : fb_sm f n ≤ n * c := by
  rw [← fb_sm_const c n]
  exact fb_sm_le h
theorem fb_sm_mono (f : Nat → Nat) (m : Nat) : ∀ n, fb_sm f m ≤ fb_sm f (m + n)
  | 0 => Nat.le_refl _
  | n + 1 => by
    have h := fb_sm_mono f m n
    show fb_sm f m ≤ fb_sm f (m + n + 1)
    rw [fb_sm_succ]
    omega
theorem fb_sm_part (f : Nat → Nat) {i n : Nat} (h : i < n) : fb_sm f i + f i ≤ fb_sm f n := by
  have := fb_sm_mono f (i + 1) (n - (i + 1))
  rw [fb_sm_succ, show i + 1 + (n - (i + 1)) = n by omega] at this
  exact this
theorem fb_sm_split (f : Nat → Nat) (m : Nat) : ∀ n, fb_sm f (m + n) = fb_sm f m + fb_sm (fun k => f (m + k)) n
  | 0 => rfl
  | n + 1 => by
    have h := fb_sm_split f m n
    show fb_sm f (m + n + 1) = _
    rw [fb_sm_succ, fb_sm_succ, h, Nat.add_assoc]
theorem fb_sm_zero {f : Nat → Nat} {n : Nat} (h : fb_sm f n = 0) : ∀ k, k < n → f k = 0 := fun k hk => by
  have := fb_sm_part f hk
  omega
/-- the same over whole numbers -/
def fb_si (f : Nat → Int) : Nat → Int
  | 0 => 0
  | n + 1 => fb_si f n + f n
theorem fb_si_succ (f : Nat → Int) (n : Nat) : fb_si f (n + 1) = fb_si f n + f n := rfl
theorem fb_si_cong {f g : Nat → Int} : ∀ {n : Nat}, (∀ k, k < n → f k = g k) → fb_si f n = fb_si g n
  | 0, _ => rfl
  | n + 1, h => by rw [fb_si_succ, fb_si_succ, fb_si_cong (fun k hk => h k (by omega)), h n (by omega)]
theorem fb_si_out (f : Nat → Int) (v : Int) {i n : Nat} (h : n ≤ i) : fb_si (fun k => if k = i then v else f k) n = fb_si f n :=
  fb_si_cong fun k hk => if_neg (by omega)
theorem fb_si_upd (f : Nat → Int) (v : Int) {i : Nat} : ∀ {n : Nat}, i < n → fb_si (fun k => if k = i then v else f k) n = fb_si f n - f i + v
  | 0, h => absurd h (Nat.not_lt_zero i)
  | n + 1, h => by
    rw [fb_si_succ, fb_si_succ]
    rcases Nat.lt_or_ge i n with q | q
    · have := fb_si_upd f v q
      have e : (if n = i then v else f n) = f n := if_neg (by omega)
      rw [e]
      omega
    · have e : i = n := by omega
      subst e
      rw [fb_si_out f v (Nat.le_refl _)]
      simp only [if_true]
      omega
theorem fb_si_add (f g : Nat → Int) : ∀ n, fb_si (fun k => f k + g k) n = fb_si f n + fb_si g n
  | 0 => rfl
  | n + 1 => by
    have h := fb_si_add f g n
    rw [fb_si_succ, fb_si_succ, fb_si_succ, h]
    omega
theorem fb_si_sub (f g : Nat → Int) : ∀ n, fb_si (fun k => f k - g k) n = fb_si f n - fb_si g n
  | 0 => rfl
  | n + 1 => by
    have h := fb_si_sub f g n
    rw [fb_si_succ, fb_si_succ, fb_si_succ, h]
    omega
theorem fb_si_mul (c : Int) (f : Nat → Int) : ∀ n, fb_si (fun k => c * f k) n = c * fb_si f n
  | 0 => (Int.mul_zero c).symm
  | n + 1 => by
    have h := fb_si_mul c f n
    rw [fb_si_succ, fb_si_succ, h, Int.mul_add]
theorem fb_si_split (f : Nat → Int) (m : Nat) : ∀ n, fb_si f (m + n) = fb_si f m + fb_si (fun k => f (m + k)) n
  | 0 => (Int.add_zero _).symm
  | n + 1 => by
    have h := fb_si_split f m n
    show fb_si f (m + n + 1) = _
    rw [fb_si_succ, fb_si_succ, h, Int.add_assoc]
theorem fb_si_nat (f : Nat → Nat) : ∀ n, fb_si (fun k => (f k : Int)) n = (fb_sm f n : Int)
  | 0 => rfl
  | n + 1 => by
    have h := fb_si_nat f n
    rw [fb_si_succ, fb_sm_succ, h]
    omega
theorem fb_si_bound {f : Nat → Int} {c : Int} (hc : 0 ≤ c) : ∀ {n : Nat}, (∀ k, k < n → -c ≤ f k ∧ f k ≤ c) → -(n * c) ≤ fb_si f n ∧ fb_si f n ≤ n * c
  | 0, _ => by simp [fb_si]
  | n + 1, h => by
    have h1 := fb_si_bound (n := n) (f := f) hc (fun k hk => h k (by omega))
    have h2 := h n (by omega)
    have e : ((n + 1 : Nat) : Int) * c = n * c + c := by rw [Int.natCast_add, Int.add_mul]; simp
    rw [fb_si_succ, e]
    omega
end
section
/-! the state in numbers: (how many lines, the length, the lines: kind and three numbers) -/
abbrev Ln : Type := Nat × Nat × Nat × Nat
abbrev Sg : Type := Nat × Nat × (Nat → Ln)
def LnOk (j : Nat) (q : Ln) : Prop := q.1 ≤ 6 ∧ (q.1 = 0 → q.2.1 ≤ 256 ∧ 1 ≤ q.2.2.1 ∧ q.2.2.1 ≤ 255) ∧ (1 ≤ q.1 → q.2.1 < j) ∧ (1 ≤ q.1 → q.1 ≤ 4 → q.2.2.1 < j) ∧ (q.1 = 4 → q.2.2.2 < j) ∧ (q.1 = 6 → 1 ≤ q.2.2.1 ∧ q.2.2.1 ≤ 60) ∧ q.2.2.1 ≤ 256 ∧ q.2.2.2 ≤ 256
def SgOk (z : Sg) : Prop := z.1 ≤ 16 ∧ 1 ≤ z.2.1 ∧ z.2.1 ≤ 1000 ∧ ∀ j, j < z.1 → LnOk j (z.2.2 j)
def LnAt (b : Nat) (c : CF) (j : Nat) (q : Ln) : Prop := c (20 + b) j = nI q.1 ∧ c (30 + b) (3 * j) = nI q.2.1 ∧ c (30 + b) (3 * j + 1) = nI q.2.2.1 ∧ c (30 + b) (3 * j + 2) = nI q.2.2.2
/-- a bench's lines -/
def RepL (b : Nat) (c : CF) (n : Nat) (f : Nat → Ln) : Prop := c 2 b = nI n ∧ ∀ j, j < n → LnAt b c j (f j)
def RepB (b : Nat) (c : CF) (z : Sg) : Prop := c 1 b = nI z.2.1 ∧ RepL b c z.1 z.2.2
/-- all but the lines of a bench is as it was -/
def Oth (b : Nat) (c0 c : CF) : Prop := ∀ q i, q ≠ 20 + b → q ≠ 30 + b → ¬ (q = 2 ∧ i = b) → c q i = c0 q i
def addC (b n : Nat) (k f s t : Int32) (c : CF) : CF := up (up (up (up (up c (20 + b) n k) (30 + b) (3 * n) f) (30 + b) (3 * n + 1) s) (30 + b) (3 * n + 2) t) 2 b (nI (n + 1))
theorem addC_oth (b n : Nat) (k f s t : Int32) (c : CF) : Oth b c (addC b n k f s t c) := by
  intro q i h1 h2 h3
  unfold addC
  rw [up_at, if_neg h3, up_at, if_neg (fun e => h2 e.1), up_at, if_neg (fun e => h2 e.1), up_at, if_neg (fun e => h2 e.1), up_at, if_neg (fun e => h1 e.1)]
theorem addC_k (b n : Nat) (hb : b < 7) (k f s t : Int32) (c : CF) (j : Nat) : addC b n k f s t c (20 + b) j = if j = n then k else c (20 + b) j := by
  unfold addC
  rw [up_at, if_neg (by omega), up_at, if_neg (by omega), up_at, if_neg (by omega), up_at, if_neg (by omega), up_at]
  by_cases h : j = n
  · rw [if_pos ⟨rfl, h⟩, if_pos h]
  · rw [if_neg (fun e => h e.2), if_neg h]
theorem addC_n (b n : Nat) (hb : b < 7) (k f s t : Int32) (c : CF) (j : Nat) : addC b n k f s t c (30 + b) j = if j = 3 * n + 2 then t else if j = 3 * n + 1 then s else if j = 3 * n then f else c (30 + b) j := by
  unfold addC
  have h0 : ¬ (30 + b = 2 ∧ j = b) := by omega
  have h9 : ¬ (30 + b = 20 + b ∧ j = n) := by omega
  rw [up_at, if_neg h0, up_at, up_at, up_at, up_at, if_neg h9]
  simp only [true_and]
theorem addC_s (b n : Nat) (k f s t : Int32) (c : CF) : addC b n k f s t c 2 b = nI (n + 1) := by
  unfold addC
  rw [up_at, if_pos ⟨rfl, rfl⟩]
def CopyP (b b2 m n : Nat) (c0 c : CF) : Prop := c 2 b = nI (m + n) ∧ (∀ j, j < n → c (20 + b) (m + j) = c0 (20 + b2) j ∧ ∀ k, k < 3 → c (30 + b) (3 * (m + j) + k) = c0 (30 + b2) (3 * j + k)) ∧ (∀ j, j < m → c (20 + b) j = c0 (20 + b) j) ∧ (∀ j, j < 3 * m → c (30 + b) j = c0 (30 + b) j) ∧ Oth b c0 c
theorem CopyP.start {b b2 m : Nat} {c : CF} (h : c 2 b = nI m) : CopyP b b2 m 0 c c := ⟨h, fun j hj => absurd hj (Nat.not_lt_zero _), fun _ _ => rfl, fun _ _ => rfl, fun _ _ _ _ _ => rfl⟩
theorem CopyP.src {b b2 m n : Nat} {c0 c : CF} (h : CopyP b b2 m n c0 c) (hb : b < 7) (hb2 : b2 < 7) (hne : b ≠ b2) : c 2 b2 = c0 2 b2 ∧ (∀ j, c (20 + b2) j = c0 (20 + b2) j) ∧ ∀ j, c (30 + b2) j = c0 (30 + b2) j :=
  ⟨h.2.2.2.2 _ _ (by omega) (by omega) (by omega), fun j => h.2.2.2.2 _ _ (by omega) (by omega) (by omega), fun j => h.2.2.2.2 _ _ (by omega) (by omega) (by omega)⟩
theorem CopyP.step {b b2 m n : Nat} {c0 c c1 : CF} (h : CopyP b b2 m n c0 c) (hb : b < 7) (hb2 : b2 < 7) (hne : b ≠ b2) (e : c1 = addC b (m + n) (c (20 + b2) n) (c (30 + b2) (3 * n)) (c (30 + b2) (3 * n + 1)) (c (30 + b2) (3 * n + 2)) c) : CopyP b b2 m (n + 1) c0 c1 := by
  obtain ⟨s1, s2, s3⟩ := h.src hb hb2 hne
  obtain ⟨h1, h2, h3, h4, h5⟩ := h
  subst e
  refine ⟨addC_s _ _ _ _ _ _ _, fun j hj => ⟨?_, fun k hk => ?_⟩, fun j hj => ?_, fun j hj => ?_, fun q i q1 q2 q3 => ?_⟩
  · rw [addC_k _ _ hb]
    by_cases e : j = n
    · subst e
      rw [if_pos rfl, s2]
    · rw [if_neg (by omega)]
      exact (h2 j (by omega)).1
  · rw [addC_n _ _ hb]
    by_cases e : j = n
    · subst e
      rw [s3, s3, s3]
      by_cases k2 : k = 2
      · rw [if_pos (by omega), k2]
      · by_cases k1 : k = 1
        · rw [if_neg (by omega), if_pos (by omega), k1]
        · have k0 : k = 0 := by omega
          rw [if_neg (by omega), if_neg (by omega), if_pos (by omega), k0, Nat.add_zero]
    · rw [if_neg (by omega), if_neg (by omega), if_neg (by omega)]
      exact (h2 j (by omega)).2 k hk
  · rw [addC_k _ _ hb, if_neg (by omega)]
    exact h3 j hj
  · rw [addC_n _ _ hb, if_neg (by omega), if_neg (by omega), if_neg (by omega)]
    exact h4 j hj
  · rw [addC_oth _ _ _ _ _ _ _ q i q1 q2 q3]
    exact h5 q i q1 q2 q3
/-- a bench is made a copy of another one -/
def CopyOf (b b2 : Nat) (c0 c : CF) : Prop := c 1 b = c0 1 b2 ∧ (∃ n, n ≤ 16 ∧ c0 2 b2 = nI n ∧ c 2 b = nI n ∧ ∀ j, j < n → c (20 + b) j = c0 (20 + b2) j ∧ ∀ k, k < 3 → c (30 + b) (3 * j + k) = c0 (30 + b2) (3 * j + k)) ∧ ∀ q i, q ≠ 20 + b → q ≠ 30 + b → ¬ (q = 2 ∧ i = b) → ¬ (q = 1 ∧ i = b) → c q i = c0 q i
theorem CopyOf.mk' {b b2 n : Nat} {c0 c1 c2 c : CF} (hb : b < 7) (hb2 : b2 < 7) (hne : b ≠ b2) (hn : n ≤ 16) (h2 : c0 2 b2 = nI n) (e1 : c1 = up c0 1 b (c0 1 b2)) (e2 : c2 = up c1 2 b (nI 0)) (h : CopyP b b2 0 n c2 c) : CopyOf b b2 c0 c := by
  obtain ⟨p1, p2, p3, p4, p5⟩ := h
  have hc2 : ∀ q i, ¬ (q = 2 ∧ i = b) → ¬ (q = 1 ∧ i = b) → c2 q i = c0 q i := by
    intro q i a1 a2
    rw [e2, up_at, if_neg a1, e1, up_at, if_neg a2]
  refine ⟨?_, ⟨n, hn, h2, by rw [p1, Nat.zero_add], fun j hj => ⟨?_, fun k hk => ?_⟩⟩, fun q i a1 a2 a3 a4 => ?_⟩
  · rw [p5 1 b (by omega) (by omega) (by omega), e2, up_at, if_neg (by omega), e1, up_at, if_pos ⟨rfl, rfl⟩]
  · have := (p2 j hj).1
    rw [Nat.zero_add] at this
    rw [this, hc2 _ _ (by omega) (by omega)]
  · have := (p2 j hj).2 k hk
    rw [Nat.zero_add] at this
    rw [this, hc2 _ _ (by omega) (by omega)]
  · rw [p5 q i a1 a2 a3, hc2 q i a3 a4]
theorem CopyOf.rep {b b2 : Nat} {c0 c : CF} {z : Sg} (h : CopyOf b b2 c0 c) (hz : RepB b2 c0 z) (hn : z.1 ≤ 16) : RepB b c z := by
  obtain ⟨h1, ⟨n, q0, q1, q2, q3⟩, -⟩ := h
  obtain ⟨z1, z2, z3⟩ := hz
  have e : n = z.1 := (nI_eq (by omega) (by omega)).mp (q1.symm.trans z2)
  subst e
  refine ⟨h1.trans z1, q2, fun j hj => ?_⟩
  obtain ⟨a1, a2, a3, a4⟩ := z3 j hj
  obtain ⟨b1, b2⟩ := q3 j hj
  exact ⟨b1.trans a1, (b2 0 (by omega)).trans a2, (b2 1 (by omega)).trans a3, (b2 2 (by omega)).trans a4⟩
/-- index of a number: line * 3 + which - 1 -/
theorem ix3 (j w : Nat) : nI j * nI 3 + nI (w + 1) - nI 1 = nI (3 * j + w) := by
  rw [pk_mul, nI_add, pk_sub (by omega)]
  congr 1
  omega
end
section
section TV
variable {p : Program} {l : Launch} {e : Env} {R : Room} {s : State} {m : MethodId} {args : Array Value} {below : List Frame} {meth : Method} {co : Code} {H : Heap} {locs : List Loc} {cells slots : Nat} {Q : State → Prop} {pc : Nat} {ls : Array Slot} {rest : List Value}
theorem tV {v w : Value} (h : v = w) (k : W p l e R s m args below meth co H locs cells slots Q (F0 m pc ls (w :: rest))) : W p l e R s m args below meth co H locs cells slots Q (F0 m pc ls (v :: rest)) := h ▸ k
end TV
theorem fm_nn : ∀ a, a < 9 → 0 ≤ nI a ^^^ nI 4 := by decide
theorem CopyOf.z {b b2 : Nat} {c0 c : CF} (h : CopyOf b b2 c0 c) (i : Nat) : c 0 i = c0 0 i := h.2.2 0 i (by omega) (by omega) (by omega) (by omega)
def PushP (o z : Nat) (c0 c : CF) : Prop := ∃ c1, CopyOf (3 + (o + z) % 4) 0 c0 c1 ∧ c = if z < 4 then up c1 0 2 (nI (z + 1)) else up c1 0 1 (nI ((o + 1) % 4))
def PopP (o z : Nat) (c0 c : CF) : Prop := ∃ c1, CopyOf 0 (3 + (o + z) % 4) c0 c1 ∧ c = up c1 0 2 (nI z)
theorem mstartF {l : Launch} {y : MethodName} {cc : ByteArray} {maxL : Nat} {ret : Option FieldType} {f k : Nat} {E : EV} {u : SS} {av : List Value} {Qc : Array Value → State → Outcome → State → Prop} (own : String) (hy : plainFor y = true) (ho : y.cls = own) (hn : (lg_sl av).length ≤ maxL)
    (body : ∀ (p : Program) (e : Env) (s : State) (m : MethodId) (args : Array Value) (below : List Frame) (meth : Method) (co : Code) (ls : Array Slot) (Q : State → Prop), MQ below Qc args s 0 0 (eR E) = Q → Fx E p s m args meth co cc maxL own ret → Iv E s s.heap [] u → lv_has ls maxL (lv_args 0 av) → W p l e (Rm f k) s m args below meth co s.heap [] 0 0 Q (F0 m 0 ls [])) : CT l y cc maxL ret (Rm f k) av E u Qc := by
  refine va_MetF (cc := cc) (maxL := maxL) (ret := ret) hy rfl ?_
  intro p e s m args below meth c s₁ B hml hv
  obtain ⟨rfl, hSw, hK⟩ := hv
  have hts := atoms_spec (ws := Cond.code y cc maxL ret :: gW) B.pre
  have hown : s.vm.findClass y.cls = some m.cls := findClass_of_methodNamed B.named
  rw [lg_entry_eq]
  exact body p e s m _ below meth c _ _ rfl ⟨B.exec, B.bytes, hml, ho ▸ hown, fun w hw => hts w (List.mem_cons_of_mem _ hw), hK, B.returns, B.notSynchronized⟩ ⟨hSw, va_S.rf⟩ (lv_entry av hn)
end
section
set_option maxHeartbeats 400000 in
set_option maxRecDepth 100000 in
theorem kX5_elementAt (l : Launch) (E : EV) (u : SS) {k r n : Nat} (h : IsI k r n) (hn : n < 2 ^ 31) (x : Int32) : CT l yX5_elementAt cX5_elementAt 2 (some .int) (Rm 0 0) [.ref (eA E k), .int (x)] E u (Q_i E (fun r0 _ => r0 = el n (u.1 r) x) (fun (_ : Unit) => u)) := by
  refine mstart RX5 (by decide +kernel) rfl (Nat.le_of_ble_eq_true rfl) ?_
  intro p e s m args below meth co ls Q hQ F hI hl
  have hx := F.1
  have hy := F.2.1
  have hl : lv_has ls 2 [(0, .ref (eA E k)), (1, .int (x))] := hl
  refine lv_iload_n hx hy dX5_elementAt_0 rfl (lv_at hl 1 rfl) ?_
  refine lv_if_lt (tgt := 10) hx hy dX5_elementAt_1 (by decide) (fun h1 => ?_) (fun h1 => ?_)
  · refine lv_iconst (v := nI 0) hx hy dX5_elementAt_10 (by decide) ?_
    refine lv_goto (tgt := 17) hx hy dX5_elementAt_11 (by decide) ?_
    exact rI hQ F (v := ()) hI dX5_elementAt_17 (if_pos (Or.inl h1)).symm
  · refine lv_iload_n hx hy dX5_elementAt_4 rfl (lv_at hl 1 rfl) ?_
    refine lv_aload_n hx hy dX5_elementAt_5 rfl (lv_at hl 0 rfl) ?_
    refine aIn F hI h dX5_elementAt_6 ?_
    refine lv_icmp_lt (tgt := 14) hx hy dX5_elementAt_7 (by decide) (fun h2 => ?_) (fun h2 => ?_)
    · refine lv_aload_n hx hy dX5_elementAt_14 rfl (lv_at hl 0 rfl) ?_
      refine lv_iload_n hx hy dX5_elementAt_15 rfl (lv_at hl 1 rfl) ?_
      refine aIl F hI h (vp_lt h1 h2 hn) dX5_elementAt_16 ?_
      exact rI hQ F (v := ()) hI dX5_elementAt_17 (if_neg (fun q => q.elim h1 (nle_lt h2))).symm
    · refine lv_iconst (v := nI 0) hx hy dX5_elementAt_10 (by decide) ?_
      refine lv_goto (tgt := 17) hx hy dX5_elementAt_11 (by decide) ?_
      exact rI hQ F (v := ()) hI dX5_elementAt_17 (if_pos (Or.inr (nlt_le h2))).symm
set_option maxHeartbeats 400000 in
set_option maxRecDepth 100000 in
theorem kX5_elementAt_t0 (l : Launch) (E : EV) (u : SS) (k : Nat) (hk : k < 7) : CT l yX5_elementAt cX5_elementAt 2 (some .int) (Rm 0 0) [.ref (eS E 0), .int (nI k)] E u (Q_i E (fun r0 _ => r0 = tblF 0 k) (fun (_ : Unit) => u)) := by
  refine mstart RX5 (by decide +kernel) rfl (Nat.le_of_ble_eq_true rfl) ?_
  intro p e s m args below meth co ls Q hQ F hI hl
  have hx := F.1
  have hy := F.2.1
  have hl : lv_has ls 2 [(0, .ref (eS E 0)), (1, .int (nI k))] := hl
  refine lv_iload_n hx hy dX5_elementAt_0 rfl (lv_at hl 1 rfl) ?_
  refine lv_if_lt (tgt := 10) hx hy dX5_elementAt_1 (by decide) (fun h1 => ?_) (fun h1 => ?_)
  · have h1 : k < 0 := (nI_ltI (a := k) (b := 0) (by omega) (by omega)).mp h1
    exact absurd h1 (by omega)
  · have h1 : 0 ≤ k := Nat.le_of_not_lt (fun q9 => h1 ((nI_ltI (a := k) (b := 0) (by omega) (by omega)).mpr q9))
    refine lv_iload_n hx hy dX5_elementAt_4 rfl (lv_at hl 1 rfl) ?_
    refine lv_aload_n hx hy dX5_elementAt_5 rfl (lv_at hl 0 rfl) ?_
    refine nT0 F hI dX5_elementAt_6 ?_
    refine lv_icmp_lt (tgt := 14) hx hy dX5_elementAt_7 (by decide) (fun h2 => ?_) (fun h2 => ?_)
    · have h2 : k < 7 := (nI_ltI (a := k) (b := 7) (by omega) (by omega)).mp h2
      refine lv_aload_n hx hy dX5_elementAt_14 rfl (lv_at hl 0 rfl) ?_
      refine lv_iload_n hx hy dX5_elementAt_15 rfl (lv_at hl 1 rfl) ?_
      refine tT0 F hI (i := k) (by omega) dX5_elementAt_16 ?_
      exact rI hQ F (v := ()) hI dX5_elementAt_17 rfl
    · have h2 : 7 ≤ k := Nat.le_of_not_lt (fun q9 => h2 ((nI_ltI (a := k) (b := 7) (by omega) (by omega)).mpr q9))
      exact absurd h2 (by omega)
set_option maxHeartbeats 400000 in
set_option maxRecDepth 100000 in
theorem kX5_elementAt_t1 (l : Launch) (E : EV) (u : SS) (k : Nat) (hk : k < 7) : CT l yX5_elementAt cX5_elementAt 2 (some .int) (Rm 0 0) [.ref (eS E 1), .int (nI k)] E u (Q_i E (fun r0 _ => r0 = tblF 1 k) (fun (_ : Unit) => u)) := by
  refine mstart RX5 (by decide +kernel) rfl (Nat.le_of_ble_eq_true rfl) ?_
  intro p e s m args below meth co ls Q hQ F hI hl
  have hx := F.1
  have hy := F.2.1
  have hl : lv_has ls 2 [(0, .ref (eS E 1)), (1, .int (nI k))] := hl
  refine lv_iload_n hx hy dX5_elementAt_0 rfl (lv_at hl 1 rfl) ?_
  refine lv_if_lt (tgt := 10) hx hy dX5_elementAt_1 (by decide) (fun h1 => ?_) (fun h1 => ?_)
  · have h1 : k < 0 := (nI_ltI (a := k) (b := 0) (by omega) (by omega)).mp h1
    exact absurd h1 (by omega)
  · have h1 : 0 ≤ k := Nat.le_of_not_lt (fun q9 => h1 ((nI_ltI (a := k) (b := 0) (by omega) (by omega)).mpr q9))
    refine lv_iload_n hx hy dX5_elementAt_4 rfl (lv_at hl 1 rfl) ?_
    refine lv_aload_n hx hy dX5_elementAt_5 rfl (lv_at hl 0 rfl) ?_
    refine nT1 F hI dX5_elementAt_6 ?_
    refine lv_icmp_lt (tgt := 14) hx hy dX5_elementAt_7 (by decide) (fun h2 => ?_) (fun h2 => ?_)
    · have h2 : k < 7 := (nI_ltI (a := k) (b := 7) (by omega) (by omega)).mp h2
      refine lv_aload_n hx hy dX5_elementAt_14 rfl (lv_at hl 0 rfl) ?_
      refine lv_iload_n hx hy dX5_elementAt_15 rfl (lv_at hl 1 rfl) ?_
      refine tT1 F hI (i := k) (by omega) dX5_elementAt_16 ?_
      exact rI hQ F (v := ()) hI dX5_elementAt_17 rfl
    · have h2 : 7 ≤ k := Nat.le_of_not_lt (fun q9 => h2 ((nI_ltI (a := k) (b := 7) (by omega) (by omega)).mpr q9))
      exact absurd h2 (by omega)
set_option maxHeartbeats 400000 in
set_option maxRecDepth 100000 in
theorem kX5_setElement (l : Launch) (E : EV) (u : SS) {k r n : Nat} (h : IsI k r n) (hn : n < 2 ^ 31) (x v : Int32) : CT l yX5_setElement cX5_setElement 3 none (Rm 0 0) [.ref (eA E k), .int (x), .int (v)] E u (Q_v E (fun c => c = stE u.1 r n x v) (fun (c : CF) => (c, u.2))) := by
  refine mstart RX5 (by decide +kernel) rfl (Nat.le_of_ble_eq_true rfl) ?_
  intro p e s m args below meth co ls Q hQ F hI hl
  have hx := F.1
  have hy := F.2.1
  have hl : lv_has ls 3 [(0, .ref (eA E k)), (1, .int (x)), (2, .int (v))] := hl
  refine lv_iload_n hx hy dX5_setElement_0 rfl (lv_at hl 1 rfl) ?_
  refine lv_if_lt (tgt := 14) hx hy dX5_setElement_1 (by decide) (fun h1 => ?_) (fun h1 => ?_)
  · exact rV hQ F (v := u.1) hI dX5_setElement_14 (if_pos (Or.inl h1)).symm
  · refine lv_iload_n hx hy dX5_setElement_4 rfl (lv_at hl 1 rfl) ?_
    refine lv_aload_n hx hy dX5_setElement_5 rfl (lv_at hl 0 rfl) ?_
    refine aIn F hI h dX5_setElement_6 ?_
    refine lv_icmp_ge (tgt := 14) hx hy dX5_setElement_7 (by decide) (fun h2 => ?_) (fun h2 => ?_)
    · exact rV hQ F (v := u.1) hI dX5_setElement_14 (if_pos (Or.inr h2)).symm
    · refine lv_aload_n hx hy dX5_setElement_10 rfl (lv_at hl 0 rfl) ?_
      refine lv_iload_n hx hy dX5_setElement_11 rfl (lv_at hl 1 rfl) ?_
      refine lv_iload_n hx hy dX5_setElement_12 rfl (lv_at hl 2 rfl) ?_
      refine aIs F hI h (vp_lt h1 (nle_lt' h2) hn) dX5_setElement_13 (fun H locs hI => ?_)
      obtain ⟨c3, ec3⟩ : ∃ z9 : CF, z9 = up u.1 r (Int32.toNatClampNeg x) (v) := ⟨_, rfl⟩
      have hI : Iv E s H locs (c3, u.2) := by rw [ec3]; exact hI
      exact rV hQ F (v := c3) hI dX5_setElement_14 (by rw [ec3]; exact (if_neg (fun q => q.elim h1 h2)).symm)
set_option maxHeartbeats 400000 in
set_option maxRecDepth 100000 in
theorem kX5_isWithin (l : Launch) (E : EV) (u : SS) (a b : Nat) (x : Int32) : CT l yX5_isWithin cX5_isWithin 3 (some .boolean) (Rm 0 0) [.int (x), .int (nI a), .int (nI b)] E u (Q_i E (fun r _ => r = if (rgO a b x).isSome = true then 1 else 0) (fun (_ : Unit) => u)) := by
  refine mstart RX5 (by decide +kernel) rfl (Nat.le_of_ble_eq_true rfl) ?_
  intro p e s m args below meth co ls Q hQ F hI hl
  have hx := F.1
  have hy := F.2.1
  have hl : lv_has ls 3 [(0, .int (x)), (1, .int (nI a)), (2, .int (nI b))] := hl
  refine lv_iload_n hx hy dX5_isWithin_0 rfl (lv_at hl 0 rfl) ?_
  refine lv_iload_n hx hy dX5_isWithin_1 rfl (lv_at hl 1 rfl) ?_
  refine lv_icmp_lt (tgt := 14) hx hy dX5_isWithin_2 (by decide) (fun h1 => ?_) (fun h1 => ?_)
  · refine lv_iconst (v := nI 0) hx hy dX5_isWithin_14 (by decide) ?_
    exact rZ hQ F (v := ()) rfl hI dX5_isWithin_15 (by rw [rgO_none (fun q => nle_lt h1 q.1)]; rfl)
  · refine lv_iload_n hx hy dX5_isWithin_5 rfl (lv_at hl 0 rfl) ?_
    refine lv_iload_n hx hy dX5_isWithin_6 rfl (lv_at hl 2 rfl) ?_
    refine lv_icmp_gt (tgt := 14) hx hy dX5_isWithin_7 (by decide) (fun h2 => ?_) (fun h2 => ?_)
    · refine lv_iconst (v := nI 0) hx hy dX5_isWithin_14 (by decide) ?_
      exact rZ hQ F (v := ()) rfl hI dX5_isWithin_15 (by rw [rgO_none (fun q => nle_lt h2 q.2)]; rfl)
    · refine lv_iconst (v := nI 1) hx hy dX5_isWithin_10 (by decide) ?_
      refine lv_goto (tgt := 15) hx hy dX5_isWithin_11 (by decide) ?_
      exact rZ hQ F (v := ()) rfl hI dX5_isWithin_15 (by rw [rgO, if_pos (And.intro (nlt_le h1) (nlt_le h2))]; rfl)
set_option maxHeartbeats 400000 in
set_option maxRecDepth 100000 in
theorem kX5_isShareAndSeed (l : Launch) (E : EV) (u : SS) (x y : Int32) : CT l yX5_isShareAndSeed cX5_isShareAndSeed 2 (some .boolean) (Rm 1 22) [.int (x), .int (y)] E u (Q_i E (fun r _ => r = if (rgO 0 256 x).isSome = true ∧ (rgO 1 255 y).isSome = true then 1 else 0) (fun (_ : Unit) => u)) := by
  refine mstart RX5 (by decide +kernel) rfl (Nat.le_of_ble_eq_true rfl) ?_
  intro p e s m args below meth co ls Q hQ F hI hl
  have hx := F.1
  have hy := F.2.1
  have hl : lv_has ls 2 [(0, .int (x)), (1, .int (y))] := hl
  refine lv_iload_n hx hy dX5_isShareAndSeed_0 rfl (lv_at hl 0 rfl) ?_
  refine lv_iconst (v := nI 0) hx hy dX5_isShareAndSeed_1 (by decide) ?_
  refine lv_sipush (v := nI 256) hx hy dX5_isShareAndSeed_2 (by decide) ?_
  refine zI hI (xS F hI hl (kX5_isWithin l E (u) 0 256 x) M_X5_68 rfl ⟨Nat.le_of_ble_eq_true rfl, Nat.le_of_ble_eq_true rfl⟩ ⟨Nat.zero_le _, Nat.zero_le _⟩ rfl (Nat.le_of_ble_eq_true rfl) dX5_isShareAndSeed_5) (fun r2 v3 H locs hI hp1 => ?_)
  by_cases hb4 : (rgO 0 256 x).isSome = true
  · rw [if_pos hb4] at hp1
    subst hp1
    refine lv_if_eq (tgt := 26) hx hy dX5_isShareAndSeed_8 (by decide) (fun q => absurd q (by decide)) (fun _ => ?_)
    refine lv_iload_n hx hy dX5_isShareAndSeed_11 rfl (lv_at hl 1 rfl) ?_
    refine lv_iconst (v := nI 1) hx hy dX5_isShareAndSeed_12 (by decide) ?_
    refine lv_sipush (v := nI 255) hx hy dX5_isShareAndSeed_13 (by decide) ?_
    refine zI hI (xS F hI hl (kX5_isWithin l E (u) 1 255 y) M_X5_68 rfl ⟨Nat.le_of_ble_eq_true rfl, Nat.le_of_ble_eq_true rfl⟩ ⟨Nat.zero_le _, Nat.zero_le _⟩ rfl (Nat.le_of_ble_eq_true rfl) dX5_isShareAndSeed_16) (fun r6 v7 H locs hI hp5 => ?_)
    by_cases hb8 : (rgO 1 255 y).isSome = true
    · rw [if_pos hb8] at hp5
      subst hp5
      refine lv_if_eq (tgt := 26) hx hy dX5_isShareAndSeed_19 (by decide) (fun q => absurd q (by decide)) (fun _ => ?_)
      refine lv_iconst (v := nI 1) hx hy dX5_isShareAndSeed_22 (by decide) ?_
      refine lv_goto (tgt := 27) hx hy dX5_isShareAndSeed_23 (by decide) ?_
      exact rZ hQ F (v := ()) rfl hI dX5_isShareAndSeed_27 (if_pos ⟨hb4, hb8⟩).symm
    · rw [if_neg hb8] at hp5
      subst hp5
      refine lv_if_eq (tgt := 26) hx hy dX5_isShareAndSeed_19 (by decide) (fun _ => ?_) (fun q => absurd q (by decide))
      refine lv_iconst (v := nI 0) hx hy dX5_isShareAndSeed_26 (by decide) ?_
      exact rZ hQ F (v := ()) rfl hI dX5_isShareAndSeed_27 (if_neg (fun q => hb8 q.2)).symm
  · rw [if_neg hb4] at hp1
    subst hp1
    refine lv_if_eq (tgt := 26) hx hy dX5_isShareAndSeed_8 (by decide) (fun _ => ?_) (fun q => absurd q (by decide))
    refine lv_iconst (v := nI 0) hx hy dX5_isShareAndSeed_26 (by decide) ?_
    exact rZ hQ F (v := ()) rfl hI dX5_isShareAndSeed_27 (if_neg (fun q => hb4 q.1)).symm
set_option maxHeartbeats 400000 in
set_option maxRecDepth 100000 in
theorem kX5_shareOf (l : Launch) (E : EV) (u : SS) (o t : Nat) (ho : o ≤ 1000) (ht : 1 ≤ t) (ht2 : t ≤ 1000) : CT l yX5_shareOf cX5_shareOf 2 (some .int) (Rm 0 0) [.int (nI o), .int (nI t)] E u (Q_i E (fun r _ => r = nI (o * 65536 / t)) (fun (_ : Unit) => u)) := by
  refine mstart RX5 (by decide +kernel) rfl (Nat.le_of_ble_eq_true rfl) ?_
  intro p e s m args below meth co ls Q hQ F hI hl
  have hx := F.1
  have hy := F.2.1
  have hl : lv_has ls 2 [(0, .int (nI o)), (1, .int (nI t))] := hl
  refine lv_iload_n hx hy dX5_shareOf_0 rfl (lv_at hl 1 rfl) ?_
  refine lv_iconst (v := nI 1) hx hy dX5_shareOf_1 (by decide) ?_
  refine lv_icmp_ge (tgt := 9) hx hy dX5_shareOf_2 (by decide) (fun h1 => ?_) (fun h1 => ?_)
  · have h1 : 1 ≤ t := (nI_leI (a := 1) (b := t) (by omega) (by omega)).mp h1
    refine lv_iload_n hx hy dX5_shareOf_9 rfl (lv_at hl 0 rfl) ?_
    refine zc F K_X5_170 dX5_shareOf_10 ?_
    refine tI (show _ = nI 65536 from rfl) ?_
    refine lv_imul hx hy dX5_shareOf_12 ?_
    refine tI (pk_mul (o) (65536)) ?_
    refine lv_iload_n hx hy dX5_shareOf_13 rfl (lv_at hl 1 rfl) ?_
    refine lv_idiv hx hy dX5_shareOf_14 (fun q => absurd ((nI_eq (by omega) (by omega)).mp (show nI (t) = nI 0 from q)) (by omega)) ?_
    refine tI (pk_div (a := o * 65536) (d := t) (by omega) (by omega) (by omega)) ?_
    exact rI hQ F (v := ()) hI dX5_shareOf_15 rfl
  · have h1 : t < 1 := Nat.lt_of_not_le (fun q9 => h1 ((nI_leI (a := 1) (b := t) (by omega) (by omega)).mpr q9))
    exact absurd h1 (by omega)
set_option maxHeartbeats 400000 in
set_option maxRecDepth 100000 in
theorem kX5_numbersOfKind (l : Launch) (E : EV) (u : SS) (k : Nat) (hk : k < 7) : CT l yX5_numbersOfKind cX5_numbersOfKind 1 (some .int) (Rm 1 21) [.int (nI k)] E u (Q_i E (fun r _ => r = tblF 0 k) (fun (_ : Unit) => u)) := by
  refine mstart RX5 (by decide +kernel) rfl (Nat.le_of_ble_eq_true rfl) ?_
  intro p e s m args below meth co ls Q hQ F hI hl
  have hx := F.1
  have hy := F.2.1
  have hl : lv_has ls 1 [(0, .int (nI k))] := hl
  refine gT0 F hI L_X5_213 dX5_numbersOfKind_0 ?_
  refine lv_iload_n hx hy dX5_numbersOfKind_3 rfl (lv_at hl 0 rfl) ?_
  refine zI hI (xS F hI hl (kX5_elementAt_t0 l E (u) k (by omega)) M_X5_217 rfl ⟨Nat.le_of_ble_eq_true rfl, Nat.le_of_ble_eq_true rfl⟩ ⟨Nat.zero_le _, Nat.zero_le _⟩ rfl (Nat.le_of_ble_eq_true rfl) dX5_numbersOfKind_4) (fun r2 v3 H locs hI hp1 => ?_)
  subst hp1
  exact rI hQ F (v := ()) hI dX5_numbersOfKind_7 rfl
set_option maxHeartbeats 400000 in
set_option maxRecDepth 100000 in
theorem kX5_linesOfKind (l : Launch) (E : EV) (u : SS) (k : Nat) (hk : k < 7) : CT l yX5_linesOfKind cX5_linesOfKind 1 (some .int) (Rm 1 21) [.int (nI k)] E u (Q_i E (fun r _ => r = tblF 1 k) (fun (_ : Unit) => u)) := by
  refine mstart RX5 (by decide +kernel) rfl (Nat.le_of_ble_eq_true rfl) ?_
  intro p e s m args below meth co ls Q hQ F hI hl
  have hx := F.1
  have hy := F.2.1
  have hl : lv_has ls 1 [(0, .int (nI k))] := hl
  refine gT1 F hI L_X5_221 dX5_linesOfKind_0 ?_
  refine lv_iload_n hx hy dX5_linesOfKind_3 rfl (lv_at hl 0 rfl) ?_
  refine zI hI (xS F hI hl (kX5_elementAt_t1 l E (u) k (by omega)) M_X5_217 rfl ⟨Nat.le_of_ble_eq_true rfl, Nat.le_of_ble_eq_true rfl⟩ ⟨Nat.zero_le _, Nat.zero_le _⟩ rfl (Nat.le_of_ble_eq_true rfl) dX5_linesOfKind_4) (fun r2 v3 H locs hI hp1 => ?_)
  subst hp1
  exact rI hQ F (v := ()) hI dX5_linesOfKind_7 rfl
end
section
set_option maxHeartbeats 400000 in
set_option maxRecDepth 100000 in
theorem kX0_has (l : Launch) (E : EV) (u : SS) {b n : Nat} (hb : b < 7) (hn : u.1 2 b = nI n) (hn2 : n < 2 ^ 31) (x : Int32) : CT l yX0_has cX0_has 2 (some .boolean) (Rm 0 0) [.ref (eA E (10 + 3 * b)), .int (x)] E u (Q_i E (fun r _ => r = if (ixO n x).isSome = true then 1 else 0) (fun (_ : Unit) => u)) := by
  refine mstart RX0 (by decide +kernel) rfl (Nat.le_of_ble_eq_true rfl) ?_
  intro p e s m args below meth co ls Q hQ F hI hl
  have hx := F.1
  have hy := F.2.1
  have hl : lv_has ls 2 [(0, .ref (eA E (10 + 3 * b))), (1, .int (x))] := hl
  refine lv_iload_n hx hy dX0_has_0 rfl (lv_at hl 1 rfl) ?_
  refine lv_if_lt (tgt := 16) hx hy dX0_has_1 (by decide) (fun h1 => ?_) (fun h1 => ?_)
  · refine lv_iconst (v := nI 0) hx hy dX0_has_16 (by decide) ?_
    exact rZ hQ F (v := ()) rfl hI dX0_has_17 (by rw [ixO_none (fun q => nle_lt h1 q.1)]; rfl)
  · refine lv_iload_n hx hy dX0_has_4 rfl (lv_at hl 1 rfl) ?_
    refine lv_aload_n hx hy dX0_has_5 rfl (lv_at hl 0 rfl) ?_
    refine gX0_size F hI (b := b) hb L_X0_15 dX0_has_6 ?_
    refine tI hn ?_
    refine lv_icmp_ge (tgt := 16) hx hy dX0_has_9 (by decide) (fun h2 => ?_) (fun h2 => ?_)
    · refine lv_iconst (v := nI 0) hx hy dX0_has_16 (by decide) ?_
      exact rZ hQ F (v := ()) rfl hI dX0_has_17 (by rw [ixO_none (fun q => nlt_of h2 q.2)]; rfl)
    · refine lv_iconst (v := nI 1) hx hy dX0_has_12 (by decide) ?_
      refine lv_goto (tgt := 17) hx hy dX0_has_13 (by decide) ?_
      exact rZ hQ F (v := ()) rfl hI dX0_has_17 (by rw [ixO, if_pos (And.intro (nlt_le h1) (nle_lt' h2))]; rfl)
set_option maxHeartbeats 400000 in
set_option maxRecDepth 100000 in
theorem kX0_kindOf (l : Launch) (E : EV) (u : SS) {b : Nat} (hb : b < 7) (x : Int32) : CT l yX0_kindOf cX0_kindOf 2 (some .int) (Rm 1 21) [.ref (eA E (10 + 3 * b)), .int (x)] E u (Q_i E (fun r _ => r = el 16 (u.1 (20 + b)) x) (fun (_ : Unit) => u)) := by
  refine mstart RX0 (by decide +kernel) rfl (Nat.le_of_ble_eq_true rfl) ?_
  intro p e s m args below meth co ls Q hQ F hI hl
  have hx := F.1
  have hy := F.2.1
  have hl : lv_has ls 2 [(0, .ref (eA E (10 + 3 * b))), (1, .int (x))] := hl
  refine lv_aload_n hx hy dX0_kindOf_0 rfl (lv_at hl 0 rfl) ?_
  refine gX0_kinds F hI (b := b) hb L_X0_18 dX0_kindOf_1 ?_
  refine lv_iload_n hx hy dX0_kindOf_4 rfl (lv_at hl 1 rfl) ?_
  refine zI hI (xS F hI hl (kX5_elementAt l E (u) (iK hb) (by decide) x) M_X0_25 rfl ⟨Nat.le_of_ble_eq_true rfl, Nat.le_of_ble_eq_true rfl⟩ ⟨Nat.zero_le _, Nat.zero_le _⟩ rfl (Nat.le_of_ble_eq_true rfl) dX0_kindOf_5) (fun r2 v3 H locs hI hp1 => ?_)
  subst hp1
  exact rI hQ F (v := ()) hI dX0_kindOf_8 rfl
set_option maxHeartbeats 400000 in
set_option maxRecDepth 100000 in
theorem kX0_numberOf (l : Launch) (E : EV) (u : SS) {b : Nat} (hb : b < 7) (x w : Int32) : CT l yX0_numberOf cX0_numberOf 3 (some .int) (Rm 1 21) [.ref (eA E (10 + 3 * b)), .int (x), .int (w)] E u (Q_i E (fun r _ => r = el 48 (u.1 (30 + b)) (x * nI 3 + w - nI 1)) (fun (_ : Unit) => u)) := by
  refine mstart RX0 (by decide +kernel) rfl (Nat.le_of_ble_eq_true rfl) ?_
  intro p e s m args below meth co ls Q hQ F hI hl
  have hx := F.1
  have hy := F.2.1
  have hl : lv_has ls 3 [(0, .ref (eA E (10 + 3 * b))), (1, .int (x)), (2, .int (w))] := hl
  refine lv_aload_n hx hy dX0_numberOf_0 rfl (lv_at hl 0 rfl) ?_
  refine gX0_numbers F hI (b := b) hb L_X0_22 dX0_numberOf_1 ?_
  refine lv_iload_n hx hy dX0_numberOf_4 rfl (lv_at hl 1 rfl) ?_
  refine lv_iconst (v := nI 3) hx hy dX0_numberOf_5 (by decide) ?_
  refine lv_imul hx hy dX0_numberOf_6 ?_
  refine lv_iload_n hx hy dX0_numberOf_7 rfl (lv_at hl 2 rfl) ?_
  refine lv_iadd hx hy dX0_numberOf_8 ?_
  refine lv_iconst (v := nI 1) hx hy dX0_numberOf_9 (by decide) ?_
  refine lv_isub hx hy dX0_numberOf_10 ?_
  refine zI hI (xS F hI hl (kX5_elementAt l E (u) (iN hb) (by decide) (((x * (nI 3)) + w) - (nI 1))) M_X0_25 rfl ⟨Nat.le_of_ble_eq_true rfl, Nat.le_of_ble_eq_true rfl⟩ ⟨Nat.zero_le _, Nat.zero_le _⟩ rfl (Nat.le_of_ble_eq_true rfl) dX0_numberOf_11) (fun r2 v3 H locs hI hp1 => ?_)
  subst hp1
  exact rI hQ F (v := ()) hI dX0_numberOf_14 rfl
set_option maxHeartbeats 400000 in
set_option maxRecDepth 100000 in
theorem kX0_setNumber (l : Launch) (E : EV) (u : SS) {b : Nat} (hb : b < 7) (x w v : Int32) : CT l yX0_setNumber cX0_setNumber 4 none (Rm 1 22) [.ref (eA E (10 + 3 * b)), .int (x), .int (w), .int (v)] E u (Q_v E (fun c => c = stE u.1 (30 + b) 48 (x * nI 3 + w - nI 1) v) (fun (c : CF) => (c, u.2))) := by
  refine mstart RX0 (by decide +kernel) rfl (Nat.le_of_ble_eq_true rfl) ?_
  intro p e s m args below meth co ls Q hQ F hI hl
  have hx := F.1
  have hy := F.2.1
  have hl : lv_has ls 4 [(0, .ref (eA E (10 + 3 * b))), (1, .int (x)), (2, .int (w)), (3, .int (v))] := hl
  refine lv_aload_n hx hy dX0_setNumber_0 rfl (lv_at hl 0 rfl) ?_
  refine gX0_numbers F hI (b := b) hb L_X0_22 dX0_setNumber_1 ?_
  refine lv_iload_n hx hy dX0_setNumber_4 rfl (lv_at hl 1 rfl) ?_
  refine lv_iconst (v := nI 3) hx hy dX0_setNumber_5 (by decide) ?_
  refine lv_imul hx hy dX0_setNumber_6 ?_
  refine lv_iload_n hx hy dX0_setNumber_7 rfl (lv_at hl 2 rfl) ?_
  refine lv_iadd hx hy dX0_setNumber_8 ?_
  refine lv_iconst (v := nI 1) hx hy dX0_setNumber_9 (by decide) ?_
  refine lv_isub hx hy dX0_setNumber_10 ?_
  refine lv_iload_n hx hy dX0_setNumber_11 rfl (lv_at hl 3 rfl) ?_
  refine zV hI (xS F hI hl (kX5_setElement l E (u) (iN hb) (by decide) (((x * (nI 3)) + w) - (nI 1)) v) M_X0_29 rfl ⟨Nat.le_of_ble_eq_true rfl, Nat.le_of_ble_eq_true rfl⟩ ⟨Nat.zero_le _, Nat.zero_le _⟩ rfl (Nat.le_of_ble_eq_true rfl) dX0_setNumber_12) (fun v3 H locs hI hp1 => ?_)
  subst hp1
  obtain ⟨c4, ec4⟩ : ∃ z9 : CF, z9 = stE (u.1) (30 + b) 48 (((x * (nI 3)) + w) - (nI 1)) v := ⟨_, rfl⟩
  have hI : Iv E s H locs (c4, u.2) := by rw [ec4]; exact hI
  exact rV hQ F (v := c4) hI dX0_setNumber_15 ec4
set_option maxHeartbeats 400000 in
set_option maxRecDepth 100000 in
theorem kX0_add (l : Launch) (E : EV) (u : SS) {b n : Nat} (hb : b < 7) (hn : u.1 2 b = nI n) (h16 : n < 16) (k f s_ t : Int32) : CT l yX0_add cX0_add 5 none (Rm 2 45) [.ref (eA E (10 + 3 * b)), .int (k), .int (f), .int (s_), .int (t)] E u (Q_v E (fun c => c = addC b n k f s_ t u.1) (fun (c : CF) => (c, u.2))) := by
  refine mstart RX0 (by decide +kernel) rfl (Nat.le_of_ble_eq_true rfl) ?_
  intro p e s m args below meth co ls Q hQ F hI hl
  have hx := F.1
  have hy := F.2.1
  have hl : lv_has ls 5 [(0, .ref (eA E (10 + 3 * b))), (1, .int (k)), (2, .int (f)), (3, .int (s_)), (4, .int (t))] := hl
  refine lv_aload_n hx hy dX0_add_0 rfl (lv_at hl 0 rfl) ?_
  refine gX0_size F hI (b := b) hb L_X0_15 dX0_add_1 ?_
  refine tI hn ?_
  refine lv_bipush (v := nI 16) hx hy dX0_add_4 (by decide) ?_
  refine lv_icmp_lt (tgt := 10) hx hy dX0_add_6 (by decide) (fun h1 => ?_) (fun h1 => ?_)
  · have h1 : n < 16 := (nI_ltI (a := n) (b := 16) (by omega) (by omega)).mp h1
    refine lv_aload_n hx hy dX0_add_10 rfl (lv_at hl 0 rfl) ?_
    refine gX0_kinds F hI (b := b) hb L_X0_18 dX0_add_11 ?_
    refine lv_aload_n hx hy dX0_add_14 rfl (lv_at hl 0 rfl) ?_
    refine gX0_size F hI (b := b) hb L_X0_15 dX0_add_15 ?_
    refine tI hn ?_
    refine lv_iload_n hx hy dX0_add_18 rfl (lv_at hl 1 rfl) ?_
    refine zV hI (xS F hI hl (kX5_setElement l E (u) (iK hb) (by decide) (nI n) k) M_X0_29 rfl ⟨Nat.le_of_ble_eq_true rfl, Nat.le_of_ble_eq_true rfl⟩ ⟨Nat.zero_le _, Nat.zero_le _⟩ rfl (Nat.le_of_ble_eq_true rfl) dX0_add_19) (fun v4 H locs hI hp2 => ?_)
    rw [stE_lt (by omega) (by decide)] at hp2
    subst hp2
    obtain ⟨c5, ec5⟩ : ∃ z9 : CF, z9 = up u.1 (20 + b) n (k) := ⟨_, rfl⟩
    have hI : Iv E s H locs (c5, u.2) := by rw [ec5]; exact hI
    have kf6 : c5 2 b = nI n := by rw [ec5, up_at, if_neg (by omega)]; exact hn
    refine lv_aload_n hx hy dX0_add_22 rfl (lv_at hl 0 rfl) ?_
    refine lv_aload_n hx hy dX0_add_23 rfl (lv_at hl 0 rfl) ?_
    refine gX0_size F hI (b := b) hb L_X0_15 dX0_add_24 ?_
    refine tI (show _ = c5 2 b from rfl) ?_
    refine tI kf6 ?_
    refine lv_iconst (v := nI 1) hx hy dX0_add_27 (by decide) ?_
    refine lv_iload_n hx hy dX0_add_28 rfl (lv_at hl 2 rfl) ?_
    refine zV hI (xV F hI hl (kX0_setNumber l E ((c5, u.2)) (b := b) hb (nI n) (nI 1) f) M_X0_37 (rX0 F hI (b := b) hb) rfl ⟨Nat.le_of_ble_eq_true rfl, Nat.le_of_ble_eq_true rfl⟩ ⟨Nat.zero_le _, Nat.zero_le _⟩ rfl (Nat.le_of_ble_eq_true rfl) dX0_add_29) (fun v9 H locs hI hp7 => ?_)
    rw [show nI n * nI 3 + nI 1 - nI 1 = nI (3 * n) from ix3 n 0, stE_lt (by omega) (by decide)] at hp7
    subst hp7
    obtain ⟨c10, ec10⟩ : ∃ z9 : CF, z9 = up c5 (30 + b) (3 * n) (f) := ⟨_, rfl⟩
    have hI : Iv E s H locs (c10, u.2) := by rw [ec10]; exact hI
    have kf11 : c10 2 b = nI n := by rw [ec10, up_at, if_neg (by omega)]; exact kf6
    refine lv_aload_n hx hy dX0_add_32 rfl (lv_at hl 0 rfl) ?_
    refine lv_aload_n hx hy dX0_add_33 rfl (lv_at hl 0 rfl) ?_
    refine gX0_size F hI (b := b) hb L_X0_15 dX0_add_34 ?_
    refine tI (show _ = c10 2 b from rfl) ?_
    refine tI kf11 ?_
    refine lv_iconst (v := nI 2) hx hy dX0_add_37 (by decide) ?_
    refine lv_iload_n hx hy dX0_add_38 rfl (lv_at hl 3 rfl) ?_
    refine zV hI (xV F hI hl (kX0_setNumber l E ((c10, u.2)) (b := b) hb (nI n) (nI 2) s_) M_X0_37 (rX0 F hI (b := b) hb) rfl ⟨Nat.le_of_ble_eq_true rfl, Nat.le_of_ble_eq_true rfl⟩ ⟨Nat.zero_le _, Nat.zero_le _⟩ rfl (Nat.le_of_ble_eq_true rfl) dX0_add_39) (fun v14 H locs hI hp12 => ?_)
    rw [show nI n * nI 3 + nI 2 - nI 1 = nI (3 * n + 1) from ix3 n 1, stE_lt (by omega) (by decide)] at hp12
    subst hp12
    obtain ⟨c15, ec15⟩ : ∃ z9 : CF, z9 = up c10 (30 + b) (3 * n + 1) (s_) := ⟨_, rfl⟩
    have hI : Iv E s H locs (c15, u.2) := by rw [ec15]; exact hI
    have kf16 : c15 2 b = nI n := by rw [ec15, up_at, if_neg (by omega)]; exact kf11
    refine lv_aload_n hx hy dX0_add_42 rfl (lv_at hl 0 rfl) ?_
    refine lv_aload_n hx hy dX0_add_43 rfl (lv_at hl 0 rfl) ?_
    refine gX0_size F hI (b := b) hb L_X0_15 dX0_add_44 ?_
    refine tI (show _ = c15 2 b from rfl) ?_
    refine tI kf16 ?_
    refine lv_iconst (v := nI 3) hx hy dX0_add_47 (by decide) ?_
    refine lv_iload hx hy dX0_add_48 (lv_at hl 4 rfl) ?_
    refine zV hI (xV F hI hl (kX0_setNumber l E ((c15, u.2)) (b := b) hb (nI n) (nI 3) t) M_X0_37 (rX0 F hI (b := b) hb) rfl ⟨Nat.le_of_ble_eq_true rfl, Nat.le_of_ble_eq_true rfl⟩ ⟨Nat.zero_le _, Nat.zero_le _⟩ rfl (Nat.le_of_ble_eq_true rfl) dX0_add_50) (fun v19 H locs hI hp17 => ?_)
    rw [show nI n * nI 3 + nI 3 - nI 1 = nI (3 * n + 2) from ix3 n 2, stE_lt (by omega) (by decide)] at hp17
    subst hp17
    obtain ⟨c20, ec20⟩ : ∃ z9 : CF, z9 = up c15 (30 + b) (3 * n + 2) (t) := ⟨_, rfl⟩
    have hI : Iv E s H locs (c20, u.2) := by rw [ec20]; exact hI
    have kf21 : c20 2 b = nI n := by rw [ec20, up_at, if_neg (by omega)]; exact kf16
    refine lv_aload_n hx hy dX0_add_53 rfl (lv_at hl 0 rfl) ?_
    refine lv_dup hx hy dX0_add_54 rfl ?_
    refine gX0_size F hI (b := b) hb L_X0_15 dX0_add_55 ?_
    refine tI (show _ = c20 2 b from rfl) ?_
    refine tI kf21 ?_
    refine lv_iconst (v := nI 1) hx hy dX0_add_58 (by decide) ?_
    refine lv_iadd hx hy dX0_add_59 ?_
    refine tI (nI_add (n) (1)) ?_
    refine pX0_size F hI (b := b) hb L_X0_15 dX0_add_60 (fun H locs hI => ?_)
    obtain ⟨c22, ec22⟩ : ∃ z9 : CF, z9 = up c20 2 b (nI (n + 1)) := ⟨_, rfl⟩
    have hI : Iv E s H locs (c22, u.2) := by rw [ec22]; exact hI
    exact rV hQ F (v := c22) hI dX0_add_63 (by rw [addC, ec22, ec20, ec15, ec10, ec5])
  · have h1 : 16 ≤ n := Nat.le_of_not_lt (fun q9 => h1 ((nI_ltI (a := n) (b := 16) (by omega) (by omega)).mpr q9))
    exact absurd h1 (by omega)
set_option maxHeartbeats 400000 in
set_option maxRecDepth 100000 in
theorem kX0_setSource (l : Launch) (E : EV) (u : SS) {b : Nat} (hb : b < 7) (j : Nat) (hj : j < 16) (x y : Int32) : CT l yX0_setSource cX0_setSource 4 none (Rm 2 45) [.ref (eA E (10 + 3 * b)), .int (nI j), .int (x), .int (y)] E u (Q_v E (fun c => c = up (up u.1 (30 + b) (3 * j) x) (30 + b) (3 * j + 1) y) (fun (c : CF) => (c, u.2))) := by
  refine mstart RX0 (by decide +kernel) rfl (Nat.le_of_ble_eq_true rfl) ?_
  intro p e s m args below meth co ls Q hQ F hI hl
  have hx := F.1
  have hy := F.2.1
  have hl : lv_has ls 4 [(0, .ref (eA E (10 + 3 * b))), (1, .int (nI j)), (2, .int (x)), (3, .int (y))] := hl
  refine lv_aload_n hx hy dX0_setSource_0 rfl (lv_at hl 0 rfl) ?_
  refine lv_iload_n hx hy dX0_setSource_1 rfl (lv_at hl 1 rfl) ?_
  refine lv_iconst (v := nI 1) hx hy dX0_setSource_2 (by decide) ?_
  refine lv_iload_n hx hy dX0_setSource_3 rfl (lv_at hl 2 rfl) ?_
  refine zV hI (xV F hI hl (kX0_setNumber l E (u) (b := b) hb (nI j) (nI 1) x) M_X0_37 (rX0 F hI (b := b) hb) rfl ⟨Nat.le_of_ble_eq_true rfl, Nat.le_of_ble_eq_true rfl⟩ ⟨Nat.zero_le _, Nat.zero_le _⟩ rfl (Nat.le_of_ble_eq_true rfl) dX0_setSource_4) (fun v3 H locs hI hp1 => ?_)
  rw [show nI j * nI 3 + nI 1 - nI 1 = nI (3 * j) from ix3 j 0, stE_lt (by omega) (by decide)] at hp1
  subst hp1
  obtain ⟨c4, ec4⟩ : ∃ z9 : CF, z9 = up u.1 (30 + b) (3 * j) (x) := ⟨_, rfl⟩
  have hI : Iv E s H locs (c4, u.2) := by rw [ec4]; exact hI
  refine lv_aload_n hx hy dX0_setSource_7 rfl (lv_at hl 0 rfl) ?_
  refine lv_iload_n hx hy dX0_setSource_8 rfl (lv_at hl 1 rfl) ?_
  refine lv_iconst (v := nI 2) hx hy dX0_setSource_9 (by decide) ?_
  refine lv_iload_n hx hy dX0_setSource_10 rfl (lv_at hl 3 rfl) ?_
  refine zV hI (xV F hI hl (kX0_setNumber l E ((c4, u.2)) (b := b) hb (nI j) (nI 2) y) M_X0_37 (rX0 F hI (b := b) hb) rfl ⟨Nat.le_of_ble_eq_true rfl, Nat.le_of_ble_eq_true rfl⟩ ⟨Nat.zero_le _, Nat.zero_le _⟩ rfl (Nat.le_of_ble_eq_true rfl) dX0_setSource_11) (fun v7 H locs hI hp5 => ?_)
  rw [show nI j * nI 3 + nI 2 - nI 1 = nI (3 * j + 1) from ix3 j 1, stE_lt (by omega) (by decide)] at hp5
  subst hp5
  obtain ⟨c8, ec8⟩ : ∃ z9 : CF, z9 = up c4 (30 + b) (3 * j + 1) (y) := ⟨_, rfl⟩
  have hI : Iv E s H locs (c8, u.2) := by rw [ec8]; exact hI
  exact rV hQ F (v := c8) hI dX0_setSource_14 (by rw [ec8, ec4])
set_option maxHeartbeats 400000 in
set_option maxRecDepth 100000 in
theorem kX0_dropLast (l : Launch) (E : EV) (u : SS) {b n : Nat} (hb : b < 7) (hn : u.1 2 b = nI (n + 1)) (h16 : n < 16) : CT l yX0_dropLast cX0_dropLast 1 none (Rm 0 0) [.ref (eA E (10 + 3 * b))] E u (Q_v E (fun c => c = up u.1 2 b (nI n)) (fun (c : CF) => (c, u.2))) := by
  refine mstart RX0 (by decide +kernel) rfl (Nat.le_of_ble_eq_true rfl) ?_
  intro p e s m args below meth co ls Q hQ F hI hl
  have hx := F.1
  have hy := F.2.1
  have hl : lv_has ls 1 [(0, .ref (eA E (10 + 3 * b)))] := hl
  refine lv_aload_n hx hy dX0_dropLast_0 rfl (lv_at hl 0 rfl) ?_
  refine gX0_size F hI (b := b) hb L_X0_15 dX0_dropLast_1 ?_
  refine tI hn ?_
  refine lv_if_le (tgt := 17) hx hy dX0_dropLast_4 (by decide) (fun h1 => ?_) (fun h1 => ?_)
  · have h1 : n + 1 ≤ 0 := (nI_leI (a := n + 1) (b := 0) (by omega) (by omega)).mp h1
    exact absurd h1 (by omega)
  · have h1 : 0 < n + 1 := Nat.lt_of_not_le (fun q9 => h1 ((nI_leI (a := n + 1) (b := 0) (by omega) (by omega)).mpr q9))
    refine lv_aload_n hx hy dX0_dropLast_7 rfl (lv_at hl 0 rfl) ?_
    refine lv_dup hx hy dX0_dropLast_8 rfl ?_
    refine gX0_size F hI (b := b) hb L_X0_15 dX0_dropLast_9 ?_
    refine tI hn ?_
    refine lv_iconst (v := nI 1) hx hy dX0_dropLast_12 (by decide) ?_
    refine lv_isub hx hy dX0_dropLast_13 ?_
    refine tI (pk_sub (a := n + 1) (b := 1) (by omega)) ?_
    refine pX0_size F hI (b := b) hb L_X0_15 dX0_dropLast_14 (fun H locs hI => ?_)
    obtain ⟨c2, ec2⟩ : ∃ z9 : CF, z9 = up u.1 2 b (nI ((n + 1) - 1)) := ⟨_, rfl⟩
    have hI : Iv E s H locs (c2, u.2) := by rw [ec2]; exact hI
    exact rV hQ F (v := c2) hI dX0_dropLast_17 ec2
set_option maxHeartbeats 400000 in
set_option maxRecDepth 100000 in
theorem kX0_addAll (l : Launch) (E : EV) (u : SS) {b b2 m0 n : Nat} (hb : b < 7) (hb2 : b2 < 7) (hne : b ≠ b2) (hm : u.1 2 b = nI m0) (hn : u.1 2 b2 = nI n) (h16 : m0 + n ≤ 16) : CT l yX0_addAll cX0_addAll 3 none (Rm 3 69) [.ref (eA E (10 + 3 * b)), .ref (eA E (10 + 3 * b2))] E u (Q_v E (fun c => CopyP b b2 m0 n u.1 c) (fun (c : CF) => (c, u.2))) := by
  refine mstart RX0 (by decide +kernel) rfl (Nat.le_of_ble_eq_true rfl) ?_
  intro p e s m args below meth co ls Q hQ F hI hl
  have hx := F.1
  have hy := F.2.1
  have hl : lv_has ls 3 [(0, .ref (eA E (10 + 3 * b))), (1, .ref (eA E (10 + 3 * b2)))] := hl
  refine lv_iconst (v := nI 0) hx hy dX0_addAll_0 (by decide) ?_
  refine lv_istore_n (lv' := [(2, .int (nI 0)), (0, .ref (eA E (10 + 3 * b))), (1, .ref (eA E (10 + 3 * b2)))]) hx hy dX0_addAll_1 rfl hl (by decide) rfl (fun ls hl => ?_)
  have lp1 : ∀ (fu : Nat) (i : Nat) (c : CF), (i ≤ n) → (n - i < fu) → (CopyP b b2 m0 i u.1 c) →  ∀ (H : Heap) (locs : List Loc) (ls : Array Slot), Iv E s H locs ((c, u.2)) → lv_has ls 3 [(2, .int (nI i)), (0, .ref (eA E (10 + 3 * b))), (1, .ref (eA E (10 + 3 * b2)))] → W p l e (Rm 3 69) s m args below meth co H locs 0 0 Q (F0 m 2 ls []) := by
    intro fu
    induction fu with
    | zero => intro i c hi hf hC; exact absurd hf (Nat.not_lt_zero _)
    | succ fu ih =>
      intro i c hi hf hC H locs ls hI hl
      have hs2 : c 2 b2 = nI n := (hC.src hb hb2 hne).1.trans hn
      have ih_2 := ih
      refine lv_iload_n hx hy dX0_addAll_2 rfl (lv_at hl 0 rfl) ?_
      refine lv_aload_n hx hy dX0_addAll_3 rfl (lv_at hl 2 rfl) ?_
      refine gX0_size F hI (b := b2) hb2 L_X0_15 dX0_addAll_4 ?_
      refine tI (show _ = c 2 b2 from rfl) ?_
      refine tI hs2 ?_
      refine lv_icmp_ge (tgt := 43) hx hy dX0_addAll_7 (by decide) (fun h2 => ?_) (fun h2 => ?_)
      · have h2 : n ≤ i := (nI_leI (a := n) (b := i) (by omega) (by omega)).mp h2
        exact rV hQ F (v := c) hI dX0_addAll_43 (by have e9 : i = n := (by omega); rw [← e9]; exact hC)
      · have h2 : i < n := Nat.lt_of_not_le (fun q9 => h2 ((nI_leI (a := n) (b := i) (by omega) (by omega)).mpr q9))
        refine lv_aload_n hx hy dX0_addAll_10 rfl (lv_at hl 1 rfl) ?_
        refine lv_aload_n hx hy dX0_addAll_11 rfl (lv_at hl 2 rfl) ?_
        refine lv_iload_n hx hy dX0_addAll_12 rfl (lv_at hl 0 rfl) ?_
        refine zI hI (xV F hI hl (kX0_kindOf l E ((c, u.2)) (b := b2) hb2 (nI i)) M_X0_33 (rX0 F hI (b := b2) hb2) rfl ⟨Nat.le_of_ble_eq_true rfl, Nat.le_of_ble_eq_true rfl⟩ ⟨Nat.zero_le _, Nat.zero_le _⟩ rfl (Nat.le_of_ble_eq_true rfl) dX0_addAll_13) (fun r4 v5 H locs hI hp3 => ?_)
        rw [el_lt (by omega) (by decide)] at hp3
        subst hp3
        refine tI (show _ = c (20 + b2) i from rfl) ?_
        refine lv_aload_n hx hy dX0_addAll_16 rfl (lv_at hl 2 rfl) ?_
        refine lv_iload_n hx hy dX0_addAll_17 rfl (lv_at hl 0 rfl) ?_
        refine lv_iconst (v := nI 1) hx hy dX0_addAll_18 (by decide) ?_
        refine zI hI (xV F hI hl (kX0_numberOf l E ((c, u.2)) (b := b2) hb2 (nI i) (nI 1)) M_X0_41 (rX0 F hI (b := b2) hb2) rfl ⟨Nat.le_of_ble_eq_true rfl, Nat.le_of_ble_eq_true rfl⟩ ⟨Nat.zero_le _, Nat.zero_le _⟩ rfl (Nat.le_of_ble_eq_true rfl) dX0_addAll_19) (fun r7 v8 H locs hI hp6 => ?_)
        rw [show nI i * nI 3 + nI 1 - nI 1 = nI (3 * i) from ix3 i 0, el_lt (by omega) (by decide)] at hp6
        subst hp6
        refine tI (show _ = c (30 + b2) (3 * i) from rfl) ?_
        refine lv_aload_n hx hy dX0_addAll_22 rfl (lv_at hl 2 rfl) ?_
        refine lv_iload_n hx hy dX0_addAll_23 rfl (lv_at hl 0 rfl) ?_
        refine lv_iconst (v := nI 2) hx hy dX0_addAll_24 (by decide) ?_
        refine zI hI (xV F hI hl (kX0_numberOf l E ((c, u.2)) (b := b2) hb2 (nI i) (nI 2)) M_X0_41 (rX0 F hI (b := b2) hb2) rfl ⟨Nat.le_of_ble_eq_true rfl, Nat.le_of_ble_eq_true rfl⟩ ⟨Nat.zero_le _, Nat.zero_le _⟩ rfl (Nat.le_of_ble_eq_true rfl) dX0_addAll_25) (fun r10 v11 H locs hI hp9 => ?_)
        rw [show nI i * nI 3 + nI 2 - nI 1 = nI (3 * i + 1) from ix3 i 1, el_lt (by omega) (by decide)] at hp9
        subst hp9
        refine tI (show _ = c (30 + b2) (3 * i + 1) from rfl) ?_
        refine lv_aload_n hx hy dX0_addAll_28 rfl (lv_at hl 2 rfl) ?_
        refine lv_iload_n hx hy dX0_addAll_29 rfl (lv_at hl 0 rfl) ?_
        refine lv_iconst (v := nI 3) hx hy dX0_addAll_30 (by decide) ?_
        refine zI hI (xV F hI hl (kX0_numberOf l E ((c, u.2)) (b := b2) hb2 (nI i) (nI 3)) M_X0_41 (rX0 F hI (b := b2) hb2) rfl ⟨Nat.le_of_ble_eq_true rfl, Nat.le_of_ble_eq_true rfl⟩ ⟨Nat.zero_le _, Nat.zero_le _⟩ rfl (Nat.le_of_ble_eq_true rfl) dX0_addAll_31) (fun r13 v14 H locs hI hp12 => ?_)
        rw [show nI i * nI 3 + nI 3 - nI 1 = nI (3 * i + 2) from ix3 i 2, el_lt (by omega) (by decide)] at hp12
        subst hp12
        refine tI (show _ = c (30 + b2) (3 * i + 2) from rfl) ?_
        refine zV hI (xV F hI hl (kX0_add l E ((c, u.2)) (b := b) hb hC.1 (by omega) (c (20 + b2) i) (c (30 + b2) (3 * i)) (c (30 + b2) (3 * i + 1)) (c (30 + b2) (3 * i + 2))) M_X0_45 (rX0 F hI (b := b) hb) rfl ⟨Nat.le_of_ble_eq_true rfl, Nat.le_of_ble_eq_true rfl⟩ ⟨Nat.zero_le _, Nat.zero_le _⟩ rfl (Nat.le_of_ble_eq_true rfl) dX0_addAll_34) (fun v17 H locs hI hp15 => ?_)
        subst hp15
        obtain ⟨c18, ec18⟩ : ∃ z9 : CF, z9 = addC b (m0 + i) (c (20 + b2) i) (c (30 + b2) (3 * i)) (c (30 + b2) (3 * i + 1)) (c (30 + b2) (3 * i + 2)) c := ⟨_, rfl⟩
        have hI : Iv E s H locs (c18, u.2) := by rw [ec18]; exact hI
        refine lv_iinc (v := nI (i + 1)) (lv' := [(2, .int (nI (i + 1))), (0, .ref (eA E (10 + 3 * b))), (1, .ref (eA E (10 + 3 * b2)))]) hx hy dX0_addAll_37 hl (k := 0) rfl (nI_add (i) 1) (by decide) rfl (fun ls hl => ?_)
        refine lv_goto (tgt := 2) hx hy dX0_addAll_40 (by decide) ?_
        exact ih_2 (i + 1) c18 (by omega) (by omega) (hC.step hb hb2 hne ec18) _ _ _ hI (lv_sub hl [0, 1, 2] rfl)
  exact lp1 (n + 1) 0 u.1 (Nat.zero_le _) (by omega) (CopyP.start hm) _ _ _ hI (lv_sub hl [0, 1, 2] rfl)
set_option maxHeartbeats 400000 in
set_option maxRecDepth 100000 in
theorem kX0_copyFrom (l : Launch) (E : EV) (u : SS) {b b2 n : Nat} (hb : b < 7) (hb2 : b2 < 7) (hne : b ≠ b2) (hn : u.1 2 b2 = nI n) (h16 : n ≤ 16) : CT l yX0_copyFrom cX0_copyFrom 2 none (Rm 4 91) [.ref (eA E (10 + 3 * b)), .ref (eA E (10 + 3 * b2))] E u (Q_v E (fun c => CopyOf b b2 u.1 c) (fun (c : CF) => (c, u.2))) := by
  refine mstart RX0 (by decide +kernel) rfl (Nat.le_of_ble_eq_true rfl) ?_
  intro p e s m args below meth co ls Q hQ F hI hl
  have hx := F.1
  have hy := F.2.1
  have hl : lv_has ls 2 [(0, .ref (eA E (10 + 3 * b))), (1, .ref (eA E (10 + 3 * b2)))] := hl
  refine lv_aload_n hx hy dX0_copyFrom_0 rfl (lv_at hl 0 rfl) ?_
  refine lv_aload_n hx hy dX0_copyFrom_1 rfl (lv_at hl 1 rfl) ?_
  refine gX0_length F hI (b := b2) hb2 L_X0_9 dX0_copyFrom_2 ?_
  refine pX0_length F hI (b := b) hb L_X0_9 dX0_copyFrom_5 (fun H locs hI => ?_)
  obtain ⟨c1, ec1⟩ : ∃ z9 : CF, z9 = up u.1 1 b (u.1 1 b2) := ⟨_, rfl⟩
  have hI : Iv E s H locs (c1, u.2) := by rw [ec1]; exact hI
  have kf2 : c1 2 b2 = nI n := by rw [ec1, up_at, if_neg (by omega)]; exact hn
  refine lv_aload_n hx hy dX0_copyFrom_8 rfl (lv_at hl 0 rfl) ?_
  refine lv_iconst (v := nI 0) hx hy dX0_copyFrom_9 (by decide) ?_
  refine pX0_size F hI (b := b) hb L_X0_15 dX0_copyFrom_10 (fun H locs hI => ?_)
  obtain ⟨c3, ec3⟩ : ∃ z9 : CF, z9 = up c1 2 b (nI 0) := ⟨_, rfl⟩
  have hI : Iv E s H locs (c3, u.2) := by rw [ec3]; exact hI
  have kf4 : c3 2 b2 = nI n := by rw [ec3, up_at, if_neg (by omega)]; exact kf2
  refine lv_aload_n hx hy dX0_copyFrom_13 rfl (lv_at hl 0 rfl) ?_
  refine lv_aload_n hx hy dX0_copyFrom_14 rfl (lv_at hl 1 rfl) ?_
  refine zV hI (xV F hI hl (kX0_addAll l E ((c3, u.2)) (b := b) (b2 := b2) (m0 := 0) (n := n) hb hb2 (by omega) (show c3 2 b = nI 0 by rw [ec3]; exact up_s _ _ _ _) kf4 (by omega)) M_X0_49 (rX0 F hI (b := b) hb) rfl ⟨Nat.le_of_ble_eq_true rfl, Nat.le_of_ble_eq_true rfl⟩ ⟨Nat.zero_le _, Nat.zero_le _⟩ rfl (Nat.le_of_ble_eq_true rfl) dX0_copyFrom_15) (fun v7 H locs hI hp5 => ?_)
  exact rV hQ F (v := v7) hI dX0_copyFrom_18 (CopyOf.mk' hb hb2 hne h16 hn ec1 ec3 hp5)
set_option maxHeartbeats 400000 in
set_option maxRecDepth 100000 in
theorem kX0_sources (l : Launch) (E : EV) (u : SS) {b n : Nat} {f : Nat → Ln} (hb : b < 7) (hR : RepL b u.1 n f) (h16 : n ≤ 16) (hk : ∀ j, j < n → (f j).1 ≤ 6) : CT l yX0_sources cX0_sources 3 (some .int) (Rm 2 42) [.ref (eA E (10 + 3 * b))] E u (Q_i E (fun r _ => r = nI (fb_ct (fun j => decide ((f j).1 = 0)) n)) (fun (_ : Unit) => u)) := by
  refine mstart RX0 (by decide +kernel) rfl (Nat.le_of_ble_eq_true rfl) ?_
  intro p e s m args below meth co ls Q hQ F hI hl
  have hx := F.1
  have hy := F.2.1
  have hl : lv_has ls 3 [(0, .ref (eA E (10 + 3 * b)))] := hl
  refine lv_iconst (v := nI 0) hx hy dX0_sources_0 (by decide) ?_
  refine lv_istore_n (lv' := [(1, .int (nI 0)), (0, .ref (eA E (10 + 3 * b)))]) hx hy dX0_sources_1 rfl hl (by decide) rfl (fun ls hl => ?_)
  refine lv_iconst (v := nI 0) hx hy dX0_sources_2 (by decide) ?_
  refine lv_istore_n (lv' := [(2, .int (nI 0)), (1, .int (nI 0)), (0, .ref (eA E (10 + 3 * b)))]) hx hy dX0_sources_3 rfl hl (by decide) rfl (fun ls hl => ?_)
  have lp1 : ∀ (fu : Nat) (i : Nat), (i ≤ n) → (n - i < fu) →  ∀ (H : Heap) (locs : List Loc) (ls : Array Slot), Iv E s H locs (u) → lv_has ls 3 [(2, .int (nI i)), (1, .int (nI ((fb_ct (fun j => decide ((f j).1 = 0)) i)))), (0, .ref (eA E (10 + 3 * b)))] → W p l e (Rm 2 42) s m args below meth co H locs 0 0 Q (F0 m 4 ls []) := by
    intro fu
    induction fu with
    | zero => intro i hi hf; exact absurd hf (Nat.not_lt_zero _)
    | succ fu ih =>
      intro i hi hf H locs ls hI hl
      have ih_4 := ih
      refine lv_iload_n hx hy dX0_sources_4 rfl (lv_at hl 0 rfl) ?_
      refine lv_aload_n hx hy dX0_sources_5 rfl (lv_at hl 2 rfl) ?_
      refine gX0_size F hI (b := b) hb L_X0_15 dX0_sources_6 ?_
      refine tI hR.1 ?_
      refine lv_icmp_ge (tgt := 29) hx hy dX0_sources_9 (by decide) (fun h2 => ?_) (fun h2 => ?_)
      · have h2 : n ≤ i := (nI_leI (a := n) (b := i) (by omega) (by omega)).mp h2
        refine lv_iload_n hx hy dX0_sources_29 rfl (lv_at hl 1 rfl) ?_
        exact rI hQ F (v := ()) hI dX0_sources_30 (by rw [show i = n from by omega])
      · have h2 : i < n := Nat.lt_of_not_le (fun q9 => h2 ((nI_leI (a := n) (b := i) (by omega) (by omega)).mpr q9))
        refine lv_aload_n hx hy dX0_sources_12 rfl (lv_at hl 2 rfl) ?_
        refine lv_iload_n hx hy dX0_sources_13 rfl (lv_at hl 0 rfl) ?_
        refine zI hI (xV F hI hl (kX0_kindOf l E (u) (b := b) hb (nI i)) M_X0_33 (rX0 F hI (b := b) hb) rfl ⟨Nat.le_of_ble_eq_true rfl, Nat.le_of_ble_eq_true rfl⟩ ⟨Nat.zero_le _, Nat.zero_le _⟩ rfl (Nat.le_of_ble_eq_true rfl) dX0_sources_14) (fun r4 v5 H locs hI hp3 => ?_)
        rw [el_lt (by omega) (by decide)] at hp3
        subst hp3
        refine tI (hR.2 i (by omega)).1 ?_
        refine lv_if_ne (tgt := 23) hx hy dX0_sources_17 (by decide) (fun h6 => ?_) (fun h6 => ?_)
        · have h6 : (f i).1 ≠ 0 := fun q9 => h6 ((nI_eq (a := (f i).1) (b := 0) (by have := hk i (by omega); omega) (by omega)).mpr q9)
          have e7 : fb_ct (fun j => decide ((f j).1 = 0)) (i + 1) = (fb_ct (fun j => decide ((f j).1 = 0)) i) := by rw [fb_ct_succ, if_neg (by simpa using h6), Nat.add_zero]
          rw [← e7] at hl
          refine lv_iinc (v := nI (i + 1)) (lv' := [(2, .int (nI (i + 1))), (1, .int (nI ((fb_ct (fun j => decide ((f j).1 = 0)) (i + 1))))), (0, .ref (eA E (10 + 3 * b)))]) hx hy dX0_sources_23 hl (k := 0) rfl (nI_add (i) 1) (by decide) rfl (fun ls hl => ?_)
          refine lv_goto (tgt := 4) hx hy dX0_sources_26 (by decide) ?_
          exact ih_4 (i + 1) (by omega) (by omega) _ _ _ hI (lv_sub hl [0, 1, 2] rfl)
        · have h6 : (f i).1 = 0 := (nI_eq (a := (f i).1) (b := 0) (by have := hk i (by omega); omega) (by omega)).mp h6
          refine lv_iinc (v := nI ((fb_ct (fun j => decide ((f j).1 = 0)) i) + 1)) (lv' := [(1, .int (nI ((fb_ct (fun j => decide ((f j).1 = 0)) i) + 1))), (2, .int (nI i)), (0, .ref (eA E (10 + 3 * b)))]) hx hy dX0_sources_20 hl (k := 1) rfl (nI_add ((fb_ct (fun j => decide ((f j).1 = 0)) i)) 1) (by decide) rfl (fun ls hl => ?_)
          have e8 : fb_ct (fun j => decide ((f j).1 = 0)) (i + 1) = (fb_ct (fun j => decide ((f j).1 = 0)) i) + 1 := by rw [fb_ct_succ, if_pos (decide_eq_true h6)]
          rw [← e8] at hl
          refine lv_iinc (v := nI (i + 1)) (lv' := [(2, .int (nI (i + 1))), (1, .int (nI ((fb_ct (fun j => decide ((f j).1 = 0)) (i + 1))))), (0, .ref (eA E (10 + 3 * b)))]) hx hy dX0_sources_23 hl (k := 1) rfl (nI_add (i) 1) (by decide) rfl (fun ls hl => ?_)
          refine lv_goto (tgt := 4) hx hy dX0_sources_26 (by decide) ?_
          exact ih_4 (i + 1) (by omega) (by omega) _ _ _ hI (lv_sub hl [0, 1, 2] rfl)
  exact lp1 (n + 1) 0 (Nat.zero_le _) (by omega) _ _ _ hI (lv_sub hl [0, 1, 2] rfl)
end
section
set_option maxHeartbeats 400000 in
set_option maxRecDepth 100000 in
theorem kJ9_floorMod_7cf53 (l : Launch) (E : EV) (u : SS) (a : Nat) (ha : a < 9) : CT l yJ9_floorMod_7cf53 cJ9_floorMod_7cf53 3 (some .int) (Rm 0 0) [.int (nI a), .int (nI 4)] E u (Q_i E (fun r _ => r = nI (a % 4)) (fun (_ : Unit) => u)) := by
  refine mstartF RJ9 (by decide +kernel) rfl (Nat.le_of_ble_eq_true rfl) ?_
  intro p e s m args below meth co ls Q hQ F hI hl
  have hx := F.1
  have hy := F.2.1
  have hl : lv_has ls 3 [(0, .int (nI a)), (1, .int (nI 4))] := hl
  refine lv_iload_n hx hy dJ9_floorMod_7cf53_0 rfl (lv_at hl 0 rfl) ?_
  refine lv_iload_n hx hy dJ9_floorMod_7cf53_1 rfl (lv_at hl 1 rfl) ?_
  refine lv_irem hx hy dJ9_floorMod_7cf53_2 (fun q => absurd ((nI_eq (by omega) (by omega)).mp (show nI (4) = nI 0 from q)) (by omega)) ?_
  refine tI (pk_rem (a := a) (d := 4) (by omega) (by omega) (by omega)) ?_
  refine lv_istore_n (lv' := [(2, .int (nI (a % 4))), (0, .int (nI a)), (1, .int (nI 4))]) hx hy dJ9_floorMod_7cf53_3 rfl hl (by decide) rfl (fun ls hl => ?_)
  refine lv_iload_n hx hy dJ9_floorMod_7cf53_4 rfl (lv_at hl 1 rfl) ?_
  refine lv_iload_n hx hy dJ9_floorMod_7cf53_5 rfl (lv_at hl 2 rfl) ?_
  refine lv_ixor hx hy dJ9_floorMod_7cf53_6 ?_
  refine lv_if_ge (tgt := 18) hx hy dJ9_floorMod_7cf53_7 (by decide) (fun h1 => ?_) (fun h1 => ?_)
  · refine lv_iload_n hx hy dJ9_floorMod_7cf53_18 rfl (lv_at hl 0 rfl) ?_
    exact rI hQ F (v := ()) hI dJ9_floorMod_7cf53_19 rfl
  · exact absurd (fm_nn a ha) h1
set_option maxHeartbeats 400000 in
set_option maxRecDepth 100000 in
theorem kX3_stateAt (l : Launch) (E : EV) (u : SS) {o : Nat} (a : Nat) (ho : u.1 0 1 = nI o) (ho4 : o < 4) (ha : a ≤ 4) : CT l yX3_stateAt cX3_stateAt 3 (some (.object "ShareStreams$Bench")) (Rm 1 22) [.ref (eA E 1), .int (nI a)] E u (Q_q E (fun r _ => r = some (eA E (10 + 3 * (3 + (o + a) % 4)))) (fun (_ : Unit) => u)) := by
  refine mstart RX3 (by decide +kernel) rfl (Nat.le_of_ble_eq_true rfl) ?_
  intro p e s m args below meth co ls Q hQ F hI hl
  have hx := F.1
  have hy := F.2.1
  have hl : lv_has ls 3 [(0, .ref (eA E 1)), (1, .int (nI a))] := hl
  refine lv_aload_n hx hy dX3_stateAt_0 rfl (lv_at hl 0 rfl) ?_
  refine gX3_oldest F hI L_X3_17 dX3_stateAt_1 ?_
  refine tI ho ?_
  refine lv_iload_n hx hy dX3_stateAt_4 rfl (lv_at hl 1 rfl) ?_
  refine lv_iadd hx hy dX3_stateAt_5 ?_
  refine tI (nI_add (o) (a)) ?_
  refine lv_iconst (v := nI 4) hx hy dX3_stateAt_6 (by decide) ?_
  refine zI hI (xS F hI hl (kJ9_floorMod_7cf53 l E (u) (o + a) (by omega)) M_X3_33 rfl ⟨Nat.le_of_ble_eq_true rfl, Nat.le_of_ble_eq_true rfl⟩ ⟨Nat.zero_le _, Nat.zero_le _⟩ rfl (Nat.le_of_ble_eq_true rfl) dX3_stateAt_7) (fun r2 v3 H locs hI hp1 => ?_)
  subst hp1
  refine lv_istore_n (lv' := [(2, .int (nI ((o + a) % 4))), (0, .ref (eA E 1)), (1, .int (nI a))]) hx hy dX3_stateAt_10 rfl hl (by decide) rfl (fun ls hl => ?_)
  refine lv_iload_n hx hy dX3_stateAt_11 rfl (lv_at hl 0 rfl) ?_
  refine lv_if_lt (tgt := 24) hx hy dX3_stateAt_12 (by decide) (fun h4 => ?_) (fun h4 => ?_)
  · have h4 : (o + a) % 4 < 0 := (nI_ltI (a := (o + a) % 4) (b := 0) (by omega) (by omega)).mp h4
    exact absurd h4 (by omega)
  · have h4 : 0 ≤ (o + a) % 4 := Nat.le_of_not_lt (fun q9 => h4 ((nI_ltI (a := (o + a) % 4) (b := 0) (by omega) (by omega)).mpr q9))
    refine lv_iload_n hx hy dX3_stateAt_15 rfl (lv_at hl 0 rfl) ?_
    refine lv_aload_n hx hy dX3_stateAt_16 rfl (lv_at hl 1 rfl) ?_
    refine gX3_states F hI L_X3_11 dX3_stateAt_17 ?_
    refine aSn F hI dX3_stateAt_20 ?_
    refine lv_icmp_lt (tgt := 28) hx hy dX3_stateAt_21 (by decide) (fun h5 => ?_) (fun h5 => ?_)
    · have h5 : (o + a) % 4 < 4 := (nI_ltI (a := (o + a) % 4) (b := 4) (by omega) (by omega)).mp h5
      refine lv_aload_n hx hy dX3_stateAt_28 rfl (lv_at hl 1 rfl) ?_
      refine gX3_states F hI L_X3_11 dX3_stateAt_29 ?_
      refine lv_iload_n hx hy dX3_stateAt_32 rfl (lv_at hl 0 rfl) ?_
      refine aSl F hI (i := (o + a) % 4) (by omega) dX3_stateAt_33 ?_
      exact rQ hQ F (v := ()) hI dX3_stateAt_34 (congrArg some (congrArg (eA E) (by omega)))
    · have h5 : 4 ≤ (o + a) % 4 := Nat.le_of_not_lt (fun q9 => h5 ((nI_ltI (a := (o + a) % 4) (b := 4) (by omega) (by omega)).mpr q9))
      exact absurd h5 (by omega)
set_option maxHeartbeats 400000 in
set_option maxRecDepth 100000 in
theorem kX3_push (l : Launch) (E : EV) (u : SS) {o z n : Nat} (ho : u.1 0 1 = nI o) (ho4 : o < 4) (hz : u.1 0 2 = nI z) (hz4 : z ≤ 4) (hn : u.1 2 0 = nI n) (h16 : n ≤ 16) : CT l yX3_push cX3_push 3 none (Rm 5 112) [.ref (eA E 1), .ref (eA E (10 + 3 * 0))] E u (Q_v E (fun c => PushP o z u.1 c) (fun (c : CF) => (c, u.2))) := by
  refine mstart RX3 (by decide +kernel) rfl (Nat.le_of_ble_eq_true rfl) ?_
  intro p e s m args below meth co ls Q hQ F hI hl
  have hx := F.1
  have hy := F.2.1
  have hl : lv_has ls 3 [(0, .ref (eA E 1)), (1, .ref (eA E (10 + 3 * 0)))] := hl
  refine lv_aload_n hx hy dX3_push_0 rfl (lv_at hl 0 rfl) ?_
  refine lv_aload_n hx hy dX3_push_1 rfl (lv_at hl 0 rfl) ?_
  refine gX3_size F hI L_X3_21 dX3_push_2 ?_
  refine tI hz ?_
  refine zQ hI (xV F hI hl (kX3_stateAt l E (u) z ho (by omega) (by omega)) M_X3_25 (rX3 F hI) rfl ⟨Nat.le_of_ble_eq_true rfl, Nat.le_of_ble_eq_true rfl⟩ ⟨Nat.zero_le _, Nat.zero_le _⟩ rfl (Nat.le_of_ble_eq_true rfl) dX3_push_5) (fun r2 v3 H locs hI hp1 => ?_)
  subst hp1
  refine tV (show va_rf (some (eA E (10 + 3 * (3 + (o + z) % 4)))) = .ref (eA E (10 + 3 * (3 + (o + z) % 4))) from rfl) ?_
  refine lv_astore_n (lv' := [(2, .ref (eA E (10 + 3 * (3 + (o + z) % 4)))), (0, .ref (eA E 1)), (1, .ref (eA E (10 + 3 * 0)))]) hx hy dX3_push_8 rfl hl (by decide) rfl (fun ls hl => ?_)
  refine lv_aload_n hx hy dX3_push_9 rfl (lv_at hl 0 rfl) ?_
  refine lv_ifnonnull (tgt := 14) hx hy dX3_push_10 (by decide) ?_
  refine lv_aload_n hx hy dX3_push_14 rfl (lv_at hl 0 rfl) ?_
  refine lv_aload_n hx hy dX3_push_15 rfl (lv_at hl 2 rfl) ?_
  refine zV hI (xV F hI hl (kX0_copyFrom l E (u) (b := (3 + (o + z) % 4)) (b2 := 0) (n := n) (by omega) (by decide) (by omega) hn (by omega)) M_X3_29 (rX0 F hI (b := (3 + (o + z) % 4)) (by omega)) rfl ⟨Nat.le_of_ble_eq_true rfl, Nat.le_of_ble_eq_true rfl⟩ ⟨Nat.zero_le _, Nat.zero_le _⟩ rfl (Nat.le_of_ble_eq_true rfl) dX3_push_16) (fun v6 H locs hI hp4 => ?_)
  have kf7 : v6 0 1 = nI o := (hp4.z 1).trans ho
  have kf8 : v6 0 2 = nI z := (hp4.z 2).trans hz
  refine lv_aload_n hx hy dX3_push_19 rfl (lv_at hl 1 rfl) ?_
  refine gX3_size F hI L_X3_21 dX3_push_20 ?_
  refine tI (show _ = v6 0 2 from rfl) ?_
  refine tI kf8 ?_
  refine lv_iconst (v := nI 4) hx hy dX3_push_23 (by decide) ?_
  refine lv_icmp_ge (tgt := 40) hx hy dX3_push_24 (by decide) (fun h9 => ?_) (fun h9 => ?_)
  · have h9 : 4 ≤ z := (nI_leI (a := 4) (b := z) (by omega) (by omega)).mp h9
    refine lv_aload_n hx hy dX3_push_40 rfl (lv_at hl 1 rfl) ?_
    refine lv_aload_n hx hy dX3_push_41 rfl (lv_at hl 1 rfl) ?_
    refine gX3_oldest F hI L_X3_17 dX3_push_42 ?_
    refine tI (show _ = v6 0 1 from rfl) ?_
    refine tI kf7 ?_
    refine lv_iconst (v := nI 1) hx hy dX3_push_45 (by decide) ?_
    refine lv_iadd hx hy dX3_push_46 ?_
    refine tI (nI_add (o) (1)) ?_
    refine lv_iconst (v := nI 4) hx hy dX3_push_47 (by decide) ?_
    refine lv_irem hx hy dX3_push_48 (fun q => absurd ((nI_eq (by omega) (by omega)).mp (show nI (4) = nI 0 from q)) (by omega)) ?_
    refine tI (pk_rem (a := o + 1) (d := 4) (by omega) (by omega) (by omega)) ?_
    refine pX3_oldest F hI L_X3_17 dX3_push_49 (fun H locs hI => ?_)
    obtain ⟨c10, ec10⟩ : ∃ z9 : CF, z9 = up v6 0 1 (nI ((o + 1) % 4)) := ⟨_, rfl⟩
    have hI : Iv E s H locs (c10, u.2) := by rw [ec10]; exact hI
    exact rV hQ F (v := c10) hI dX3_push_52 ⟨_, hp4, by rw [if_neg (by omega)]; exact ec10⟩
  · have h9 : z < 4 := Nat.lt_of_not_le (fun q9 => h9 ((nI_leI (a := 4) (b := z) (by omega) (by omega)).mpr q9))
    refine lv_aload_n hx hy dX3_push_27 rfl (lv_at hl 1 rfl) ?_
    refine lv_dup hx hy dX3_push_28 rfl ?_
    refine gX3_size F hI L_X3_21 dX3_push_29 ?_
    refine tI (show _ = v6 0 2 from rfl) ?_
    refine tI kf8 ?_
    refine lv_iconst (v := nI 1) hx hy dX3_push_32 (by decide) ?_
    refine lv_iadd hx hy dX3_push_33 ?_
    refine tI (nI_add (z) (1)) ?_
    refine pX3_size F hI L_X3_21 dX3_push_34 (fun H locs hI => ?_)
    obtain ⟨c11, ec11⟩ : ∃ z9 : CF, z9 = up v6 0 2 (nI (z + 1)) := ⟨_, rfl⟩
    have hI : Iv E s H locs (c11, u.2) := by rw [ec11]; exact hI
    refine lv_goto (tgt := 52) hx hy dX3_push_37 (by decide) ?_
    exact rV hQ F (v := c11) hI dX3_push_52 ⟨_, hp4, by rw [if_pos h9]; exact ec11⟩
end
section
/-! the streams: registers, bits, words of 64 ticks -/
def nr (r : Nat) : Nat := if 2 * r < 256 then 2 * r else (2 * r - 256) ^^^ 29
def reg (z : Nat) : Nat → Nat
  | 0 => z
  | t + 1 => nr (reg z t)
theorem nr_lt {r : Nat} (h : r < 256) : nr r < 256 := by
  unfold nr
  split
  · omega
  · exact Nat.xor_lt_two_pow (n := 8) (by omega) (by decide)
theorem reg_lt {z : Nat} (h : z < 256) : ∀ t, reg z t < 256
  | 0 => h
  | t + 1 => nr_lt (reg_lt h t)
theorem nI_xor (a b : Nat) : nI a ^^^ nI b = nI (a ^^^ b) := by
  apply Int32.toBitVec_inj.mp
  show (nI a).toBitVec ^^^ (nI b).toBitVec = (nI (a ^^^ b)).toBitVec
  apply BitVec.eq_of_getLsbD_eq
  intro i hi
  show ((BitVec.ofNat 32 a) ^^^ (BitVec.ofNat 32 b)).getLsbD i = (BitVec.ofNat 32 (a ^^^ b)).getLsbD i
  simp [hi]
/-- a line's bit at a tick out of those of the lines ahead -/
def bStep (q : Ln) (B : Nat → Nat → Bool) (t : Nat) : Bool :=
  if q.1 = 0 then decide (reg q.2.2.1 t ≤ q.2.1)
  else if q.1 = 1 then B q.2.1 t && B q.2.2.1 t
  else if q.1 = 2 then B q.2.1 t || B q.2.2.1 t
  else if q.1 = 3 then B q.2.1 t ^^ B q.2.2.1 t
  else if q.1 = 4 then (if B q.2.2.2 t = true then B q.2.1 t else B q.2.2.1 t)
  else if q.1 = 5 then !B q.2.1 t
  else if t < q.2.2.1 then false else B q.2.1 (t - q.2.2.1)
def bTab (f : Nat → Ln) : Nat → Nat → Nat → Bool
  | 0 => fun _ _ => false
  | j + 1 => fun i t => if i = j then bStep (f j) (bTab f j) t else bTab f j i t
def bt (f : Nat → Ln) (j t : Nat) : Bool := bTab f (j + 1) j t
theorem bTab_eq (f : Nat → Ln) (t : Nat) : ∀ (j i : Nat), i < j → bTab f j i t = bt f i t
  | 0, i, h => absurd h (Nat.not_lt_zero i)
  | j + 1, i, h => by
    by_cases e : i = j
    · subst e
      rfl
    · show (if i = j then bStep (f j) (bTab f j) t else bTab f j i t) = _
      rw [if_neg e]
      exact bTab_eq f t j i (by omega)
theorem bStep_cong {q : Ln} {B B' : Nat → Nat → Bool} {j t : Nat} (hq : LnOk j q) (h : ∀ i, i < j → ∀ t, B i t = B' i t) : bStep q B t = bStep q B' t := by
  obtain ⟨h1, h2, h3, h4, h5, -⟩ := hq
  unfold bStep
  by_cases k0 : q.1 = 0
  · rw [if_pos k0, if_pos k0]
  · have ha := h q.2.1 (h3 (by omega))
    rw [if_neg k0, if_neg k0]
    by_cases k4 : q.1 ≤ 4
    · have hb := h q.2.2.1 (h4 (by omega) k4)
      by_cases k5 : q.1 = 4
      · have hc := h q.2.2.2 (h5 k5)
        simp only [ha, hb, hc]
      · simp only [ha, hb, if_neg k5]
    · simp only [ha, if_neg (show ¬ q.1 = 1 by omega), if_neg (show ¬ q.1 = 2 by omega), if_neg (show ¬ q.1 = 3 by omega), if_neg (show ¬ q.1 = 4 by omega)]
theorem bt_eq {f : Nat → Ln} {j : Nat} (hq : LnOk j (f j)) (t : Nat) : bt f j t = bStep (f j) (bt f) t := by
  show (if j = j then bStep (f j) (bTab f j) t else bTab f j j t) = _
  rw [if_pos rfl]
  exact bStep_cong hq (fun i hi t => bTab_eq f t j i hi)
/-- the bits depend on the lines up to it -/
theorem bTab_cong {f f' : Nat → Ln} : ∀ (j i : Nat), (∀ k, k < j → f k = f' k) → i < j → ∀ t, bTab f j i t = bTab f' j i t
  | 0, i, _, h, _ => absurd h (Nat.not_lt_zero i)
  | j + 1, i, he, h, t => by
    show (if i = j then bStep (f j) (bTab f j) t else bTab f j i t) = (if i = j then bStep (f' j) (bTab f' j) t else bTab f' j i t)
    have h0 : bTab f j = bTab f' j := by
      funext a b
      by_cases ha : a < j
      · exact bTab_cong j a (fun k hk => he k (by omega)) ha b
      · have z : ∀ (g : Nat → Ln) (j : Nat), ¬ a < j → bTab g j a b = false := by
          intro g j
          induction j with
          | zero => intro _; rfl
          | succ j ih => intro hh; show (if a = j then _ else bTab g j a b) = false; rw [if_neg (by omega)]; exact ih (by omega)
        rw [z f j ha, z f' j ha]
    rw [he j (by omega), h0]
theorem bt_cong {f f' : Nat → Ln} {j : Nat} (h : ∀ k, k ≤ j → f k = f' k) (t : Nat) : bt f j t = bt f' j t := bTab_cong (j + 1) j (fun k hk => h k (by omega)) (by omega) t
/-- bit t of a long -/
def lb (x : Int64) (t : Nat) : Bool := x.toBitVec.getLsbD t
/-- a row of words holds the bits of a line over so many words -/
def RowG (g : GF) (f : Nat → Ln) (j w : Nat) : Prop := ∀ v, v < w → ∀ t, t < 64 → lb (g j v) t = bt f j (64 * v + t)
theorem lb_and (x y : Int64) (t : Nat) : lb (x &&& y) t = (lb x t && lb y t) := by simp [lb]
theorem lb_or (x y : Int64) (t : Nat) : lb (x ||| y) t = (lb x t || lb y t) := by simp [lb]
theorem lb_xor (x y : Int64) (t : Nat) : lb (x ^^^ y) t = (lb x t ^^ lb y t) := by simp [lb]
theorem lb_m1 {t : Nat} (h : t < 64) : lb (lN 18446744073709551615) t = true := by
  have : ∀ t, t < 64 → lb (lN 18446744073709551615) t = true := by decide
  exact this t h
theorem lb_0 (t : Nat) : lb (lN 0) t = false := by
  show (BitVec.ofNat 64 0).getLsbD t = false
  simp
theorem sh_c : ∀ k, k < 64 → ((Int32.toInt64 (nI k) &&& 63).toBitVec.smod 64).toNat = k := by decide
theorem sh_u : ∀ k, k < 64 → (((Int32.toInt64 (nI k)).toUInt64 &&& Int64.toUInt64 63).toBitVec % 64).toNat = k := by decide
theorem lb_shl (x : Int64) {k t : Nat} (hk : k < 64) (ht : t < 64) : lb (x <<< (Int32.toInt64 (nI k) &&& 63)) t = (decide (k ≤ t) && lb x (t - k)) := by
  show (x.toBitVec <<< ((Int32.toInt64 (nI k) &&& 63).toBitVec.smod 64)).getLsbD t = _
  rw [BitVec.shiftLeft_eq', sh_c k hk, BitVec.getLsbD_shiftLeft]
  by_cases h : k ≤ t
  · simp [ht, h, Nat.not_lt.mpr h, lb]
  · simp [ht, h, Nat.lt_of_not_le h]
theorem lb_ushr (x : Int64) {k t : Nat} (hk : k < 64) : lb ((Int64.toUInt64 x >>> ((Int32.toInt64 (nI k)).toUInt64 &&& Int64.toUInt64 63)).toInt64) t = lb x (k + t) := by
  show ((x.toUInt64 >>> ((Int32.toInt64 (nI k)).toUInt64 &&& Int64.toUInt64 63)).toBitVec).getLsbD t = _
  rw [UInt64.toBitVec_shiftRight, BitVec.ushiftRight_eq', sh_u k hk, BitVec.getLsbD_ushiftRight]
  rfl
theorem lb_one {t : Nat} (h : t < 64) : lb (lN 1) t = decide (t = 0) := by
  have : ∀ t, t < 64 → lb (lN 1) t = decide (t = 0) := by decide
  exact this t h
def wdE (g : GF) (i : Nat) (x : Int32) : Int64 := if i < 16 then (if x < 0 ∨ nI 16 ≤ x then lN 0 else g i x.toNatClampNeg) else lN 0
theorem wdE_in {g : GF} {i v : Nat} (hi : i < 16) (hv : v < 16) : wdE g i (nI v) = g i v := by
  unfold wdE
  rw [if_pos hi, if_neg, nI_clamp (by omega)]
  rintro (q | q)
  · exact nI_pos (by omega) q
  · exact nI_ge hv (by decide) q
theorem wdE_m1 {g : GF} {i : Nat} (hi : i < 16) : wdE g i (-1) = lN 0 := by
  unfold wdE
  rw [if_pos hi, if_pos (Or.inl (by decide))]
theorem lb_big (x : Int64) {t : Nat} (h : 64 ≤ t) : lb x t = false := BitVec.getLsbD_of_ge _ _ h
theorem bt_0 {f : Nat → Ln} {j t : Nat} (hq : LnOk j (f j)) (h : (f j).1 = 0) : bt f j t = decide (reg (f j).2.2.1 t ≤ (f j).2.1) := by rw [bt_eq hq]; simp [bStep, h]
theorem bt_1 {f : Nat → Ln} {j t : Nat} (hq : LnOk j (f j)) (h : (f j).1 = 1) : bt f j t = (bt f (f j).2.1 t && bt f (f j).2.2.1 t) := by rw [bt_eq hq]; simp [bStep, h]
theorem bt_2 {f : Nat → Ln} {j t : Nat} (hq : LnOk j (f j)) (h : (f j).1 = 2) : bt f j t = (bt f (f j).2.1 t || bt f (f j).2.2.1 t) := by rw [bt_eq hq]; simp [bStep, h]
theorem bt_3 {f : Nat → Ln} {j t : Nat} (hq : LnOk j (f j)) (h : (f j).1 = 3) : bt f j t = (bt f (f j).2.1 t ^^ bt f (f j).2.2.1 t) := by rw [bt_eq hq]; simp [bStep, h]
theorem bt_4 {f : Nat → Ln} {j t : Nat} (hq : LnOk j (f j)) (h : (f j).1 = 4) : bt f j t = (if bt f (f j).2.2.2 t = true then bt f (f j).2.1 t else bt f (f j).2.2.1 t) := by rw [bt_eq hq]; simp [bStep, h]
theorem bt_5 {f : Nat → Ln} {j t : Nat} (hq : LnOk j (f j)) (h : (f j).1 = 5) : bt f j t = !bt f (f j).2.1 t := by rw [bt_eq hq]; simp [bStep, h]
theorem bt_6 {f : Nat → Ln} {j t : Nat} (hq : LnOk j (f j)) (h : (f j).1 = 6) : bt f j t = (if t < (f j).2.2.1 then false else bt f (f j).2.1 (t - (f j).2.2.1)) := by rw [bt_eq hq]; simp [bStep, h]
theorem mw_6 {f : Nat → Ln} {j v d t : Nat} {x y : Int64} (hq : LnOk j (f j)) (h : (f j).1 = 6) (hd : (f j).2.2.1 = d) (h1 : 1 ≤ d) (h60 : d ≤ 60) (ht : t < 64) (hx : ∀ t, t < 64 → lb x t = bt f (f j).2.1 (64 * v + t)) (hy : v = 0 → y = lN 0) (hy2 : ∀ w, v = w + 1 → ∀ t, t < 64 → lb y t = bt f (f j).2.1 (64 * w + t)) : lb (x <<< (Int32.toInt64 (nI d) &&& 63) ||| (Int64.toUInt64 y >>> ((Int32.toInt64 (nI (64 - d))).toUInt64 &&& Int64.toUInt64 63)).toInt64) t = bt f j (64 * v + t) := by
  rw [lb_or, lb_shl x (by omega) ht, lb_ushr y (by omega), bt_6 hq h, hd]
  by_cases e : d ≤ t
  · rw [if_neg (by omega), lb_big y (by omega), hx _ (by omega), decide_eq_true e, Bool.true_and, Bool.or_false]
    congr 1
    omega
  · rw [decide_eq_false e, Bool.false_and, Bool.false_or]
    cases v with
    | zero => rw [hy rfl, lb_0, if_pos (by omega)]
    | succ w =>
      rw [hy2 w rfl _ (by omega), if_neg (by omega)]
      congr 1
      omega
/-- the rows of a source -/
def SrcG (g : GF) (j sh sd w : Nat) : Prop := ∀ v, v < w → ∀ t, t < 64 → lb (g j v) t = decide (reg sd (64 * v + t) ≤ sh)
def SrcX (x : Int64) (v sh sd k : Nat) : Prop := (∀ t, t < k → lb x t = decide (reg sd (64 * v + t) ≤ sh)) ∧ ∀ t, k ≤ t → t < 64 → lb x t = false
theorem SrcX.set {x : Int64} {v sh sd k : Nat} (h : SrcX x v sh sd k) (hk : k < 64) (hr : reg sd (64 * v + k) ≤ sh) : SrcX (x ||| (lN 1 <<< (Int32.toInt64 (nI k) &&& 63))) v sh sd (k + 1) := by
  refine ⟨fun t ht => ?_, fun t h1 h2 => ?_⟩
  · rw [lb_or, lb_shl _ hk (by omega), lb_one (by omega)]
    by_cases e : t = k
    · subst e
      rw [h.2 t (Nat.le_refl _) hk, decide_eq_true hr]
      simp
    · rw [h.1 t (by omega), decide_eq_false (show ¬ k ≤ t by omega)]
      simp
  · rw [lb_or, lb_shl _ hk h2, lb_one (by omega), h.2 t (by omega) h2, decide_eq_false (show ¬ t - k = 0 by omega)]
    simp
theorem SrcX.skip {x : Int64} {v sh sd k : Nat} (h : SrcX x v sh sd k) (hk : k < 64) (hr : ¬ reg sd (64 * v + k) ≤ sh) : SrcX x v sh sd (k + 1) := by
  refine ⟨fun t ht => ?_, fun t h1 h2 => h.2 t (by omega) h2⟩
  by_cases e : t = k
  · subst e
    rw [h.2 t (Nat.le_refl _) hk, decide_eq_false hr]
  · exact h.1 t (by omega)
theorem SrcX.start (v sh sd : Nat) : SrcX (lN 0) v sh sd 0 := ⟨fun t h => absurd h (Nat.not_lt_zero t), fun t _ _ => lb_0 t⟩
def OthG (j : Nat) (g0 g : GF) : Prop := ∀ i, i ≠ j → ∀ v, g i v = g0 i v
theorem SrcG.step {g0 g g1 : GF} {j sh sd w : Nat} {x : Int64} (h : SrcG g j sh sd w) (ho : OthG j g0 g) (hx : SrcX x w sh sd 64) (e : g1 = upG g j w x) : SrcG g1 j sh sd (w + 1) ∧ OthG j g0 g1 := by
  subst e
  refine ⟨fun v hv t ht => ?_, fun i hi v => ?_⟩
  · rw [upG_at]
    by_cases ev : v = w
    · subst ev
      rw [if_pos ⟨rfl, rfl⟩]
      exact hx.1 t ht
    · rw [if_neg (fun q => ev q.2)]
      exact h v (by omega) t ht
  · rw [upG_at, if_neg (fun q => hi q.1)]
    exact ho i hi v
theorem RowG.keep {g g1 : GF} {f : Nat → Ln} {i j w : Nat} (h : RowG g f i w) (ho : OthG j g g1) (hi : i ≠ j) : RowG g1 f i w := fun v hv t ht => by rw [ho i hi v]; exact h v hv t ht
theorem RowG.less {g : GF} {f : Nat → Ln} {i w w' : Nat} (h : RowG g f i w) (hw : w' ≤ w) : RowG g f i w' := fun v hv t ht => h v (by omega) t ht
theorem RowG.step {g0 g g1 : GF} {f : Nat → Ln} {j w : Nat} {x : Int64} (h : RowG g f j w) (ho : OthG j g0 g) (hx : ∀ t, t < 64 → lb x t = bt f j (64 * w + t)) (e : g1 = upG g j w x) : RowG g1 f j (w + 1) ∧ OthG j g0 g1 := by
  subst e
  refine ⟨fun v hv t ht => ?_, fun i hi v => ?_⟩
  · rw [upG_at]
    by_cases ev : v = w
    · subst ev
      rw [if_pos ⟨rfl, rfl⟩]
      exact hx t ht
    · rw [if_neg (fun q => ev q.2)]
      exact h v (by omega) t ht
  · rw [upG_at, if_neg (fun q => hi q.1)]
    exact ho i hi v
theorem la_T {k : Nat} (h2 : k < 2 ^ 30) : (nI k - 1).toInt = (k : Int) - 1 := pk_sub_toInt (b := 1) h2 (by decide)
theorem la_lt {la : Int32} {k i : Nat} (h : la = nI k - 1) (hk : k < 2 ^ 30) (hi : i < 2 ^ 30) (hq : ¬ la < nI i) : i < k := by
  rw [il, h, la_T hk, nT (by omega)] at hq
  omega
theorem la_ge {la : Int32} {k i : Nat} (h : la = nI k - 1) (hk : k < 2 ^ 30) (hi : i < 2 ^ 30) (hq : la < nI i) : k ≤ i := by
  rw [il, h, la_T hk, nT (by omega)] at hq
  omega
end
section
set_option maxHeartbeats 400000 in
set_option maxRecDepth 100000 in
theorem kX4_nextRegister (l : Launch) (E : EV) (u : SS) (r : Nat) (hr : r < 256) : CT l yX4_nextRegister cX4_nextRegister 2 (some .int) (Rm 0 0) [.int (nI r)] E u (Q_i E (fun z _ => z = nI (nr r)) (fun (_ : Unit) => u)) := by
  refine mstart RX4 (by decide +kernel) rfl (Nat.le_of_ble_eq_true rfl) ?_
  intro p e s m args below meth co ls Q hQ F hI hl
  have hx := F.1
  have hy := F.2.1
  have hl : lv_has ls 2 [(0, .int (nI r))] := hl
  refine lv_iload_n hx hy dX4_nextRegister_0 rfl (lv_at hl 0 rfl) ?_
  refine lv_iconst (v := nI 2) hx hy dX4_nextRegister_1 (by decide) ?_
  refine lv_imul hx hy dX4_nextRegister_2 ?_
  refine tI (pk_mul (r) (2)) ?_
  refine lv_istore_n (lv' := [(1, .int (nI (r * 2))), (0, .int (nI r))]) hx hy dX4_nextRegister_3 rfl hl (by decide) rfl (fun ls hl => ?_)
  refine lv_iload_n hx hy dX4_nextRegister_4 rfl (lv_at hl 0 rfl) ?_
  refine lv_sipush (v := nI 256) hx hy dX4_nextRegister_5 (by decide) ?_
  refine lv_icmp_ge (tgt := 15) hx hy dX4_nextRegister_8 (by decide) (fun h1 => ?_) (fun h1 => ?_)
  · have h1 : 256 ≤ r * 2 := (nI_leI (a := 256) (b := r * 2) (by omega) (by omega)).mp h1
    refine lv_iload_n hx hy dX4_nextRegister_15 rfl (lv_at hl 0 rfl) ?_
    refine lv_sipush (v := nI 256) hx hy dX4_nextRegister_16 (by decide) ?_
    refine lv_isub hx hy dX4_nextRegister_19 ?_
    refine tI (pk_sub (a := r * 2) (b := 256) (by omega)) ?_
    refine lv_bipush (v := nI 29) hx hy dX4_nextRegister_20 (by decide) ?_
    refine lv_ixor hx hy dX4_nextRegister_22 ?_
    exact rI hQ F (v := ()) hI dX4_nextRegister_23 (by unfold nr; rw [if_neg (by omega), nI_xor, Nat.mul_comm r 2])
  · have h1 : r * 2 < 256 := Nat.lt_of_not_le (fun q9 => h1 ((nI_leI (a := 256) (b := r * 2) (by omega) (by omega)).mpr q9))
    refine lv_iload_n hx hy dX4_nextRegister_11 rfl (lv_at hl 0 rfl) ?_
    refine lv_goto (tgt := 23) hx hy dX4_nextRegister_12 (by decide) ?_
    exact rI hQ F (v := ()) hI dX4_nextRegister_23 (by unfold nr; rw [if_pos (by omega), Nat.mul_comm r 2])
set_option maxHeartbeats 400000 in
set_option maxRecDepth 100000 in
theorem kX4_wordAt (l : Launch) (E : EV) (u : SS) (i : Nat) (hi : i < 2 ^ 31) (x : Int32) : CT l yX4_wordAt cX4_wordAt 4 (some .long) (Rm 0 0) [.ref (eA E 9), .int (nI i), .int (x)] E u (Q_l E (fun z _ => z = wdE u.2 i x) (fun (_ : Unit) => u)) := by
  refine mstart RX4 (by decide +kernel) rfl (Nat.le_of_ble_eq_true rfl) ?_
  intro p e s m args below meth co ls Q hQ F hI hl
  have hx := F.1
  have hy := F.2.1
  have hl : lv_has ls 4 [(0, .ref (eA E 9)), (1, .int (nI i)), (2, .int (x))] := hl
  refine lv_iload_n hx hy dX4_wordAt_0 rfl (lv_at hl 1 rfl) ?_
  refine lv_if_lt (tgt := 13) hx hy dX4_wordAt_1 (by decide) (fun h1 => ?_) (fun h1 => ?_)
  · have h1 : i < 0 := (nI_ltI (a := i) (b := 0) (by omega) (by omega)).mp h1
    exact absurd h1 (by omega)
  · have h1 : 0 ≤ i := Nat.le_of_not_lt (fun q9 => h1 ((nI_ltI (a := i) (b := 0) (by omega) (by omega)).mpr q9))
    refine lv_iload_n hx hy dX4_wordAt_4 rfl (lv_at hl 1 rfl) ?_
    refine lv_aload_n hx hy dX4_wordAt_5 rfl (lv_at hl 0 rfl) ?_
    refine gX4_rows F hI L_X4_11 dX4_wordAt_6 ?_
    refine aRn F hI dX4_wordAt_9 ?_
    refine lv_icmp_lt (tgt := 15) hx hy dX4_wordAt_10 (by decide) (fun h2 => ?_) (fun h2 => ?_)
    · have h2 : i < 16 := (nI_ltI (a := i) (b := 16) (by omega) (by omega)).mp h2
      refine lv_aload_n hx hy dX4_wordAt_15 rfl (lv_at hl 0 rfl) ?_
      refine gX4_rows F hI L_X4_11 dX4_wordAt_16 ?_
      refine lv_iload_n hx hy dX4_wordAt_19 rfl (lv_at hl 1 rfl) ?_
      refine aRl F hI (i := i) (by omega) dX4_wordAt_20 ?_
      refine lv_astore_n (lv' := [(3, .ref (eA E (32 + (i)))), (0, .ref (eA E 9)), (1, .int (nI i)), (2, .int (x))]) hx hy dX4_wordAt_21 rfl hl (by decide) rfl (fun ls hl => ?_)
      refine lv_iload_n hx hy dX4_wordAt_22 rfl (lv_at hl 3 rfl) ?_
      refine lv_if_lt (tgt := 32) hx hy dX4_wordAt_23 (by decide) (fun h3 => ?_) (fun h3 => ?_)
      · refine lv_lconst (v := lN 0) hx hy dX4_wordAt_32 (by decide) ?_
        refine lv_goto (tgt := 39) hx hy dX4_wordAt_33 (by decide) ?_
        exact rL hQ F (v := ()) hI dX4_wordAt_39 (by unfold wdE; rw [if_pos (by omega), if_pos (Or.inl h3)])
      · refine lv_iload_n hx hy dX4_wordAt_26 rfl (lv_at hl 3 rfl) ?_
        refine lv_aload_n hx hy dX4_wordAt_27 rfl (lv_at hl 0 rfl) ?_
        refine aLn F hI (iRow (b := i) (by omega)) dX4_wordAt_28 ?_
        refine lv_icmp_lt (tgt := 36) hx hy dX4_wordAt_29 (by decide) (fun h4 => ?_) (fun h4 => ?_)
        · obtain ⟨jj, hj, ex⟩ : ∃ j : Nat, j < 16 ∧ x = nI j := vp_in_of (vp_lt h3 h4 (by decide)) (by decide)
          have hl : lv_has ls 4 [(3, .ref (eA E (32 + (i)))), (0, .ref (eA E 9)), (1, .int (nI i)), (2, .int (nI jj))] := by rw [ex] at hl; exact hl
          refine lv_aload_n hx hy dX4_wordAt_36 rfl (lv_at hl 0 rfl) ?_
          refine lv_iload_n hx hy dX4_wordAt_37 rfl (lv_at hl 3 rfl) ?_
          refine aLlN F hI (iRow (b := i) (by omega)) (i := jj) (by omega) dX4_wordAt_38 ?_
          exact rL hQ F (v := ()) hI dX4_wordAt_39 (by rw [ex]; exact (wdE_in (by omega) hj).symm)
        · refine lv_lconst (v := lN 0) hx hy dX4_wordAt_32 (by decide) ?_
          refine lv_goto (tgt := 39) hx hy dX4_wordAt_33 (by decide) ?_
          exact rL hQ F (v := ()) hI dX4_wordAt_39 (by unfold wdE; rw [if_pos (by omega), if_pos (Or.inr (nlt_le h4))])
    · have h2 : 16 ≤ i := Nat.le_of_not_lt (fun q9 => h2 ((nI_ltI (a := i) (b := 16) (by omega) (by omega)).mpr q9))
      refine lv_lconst (v := lN 0) hx hy dX4_wordAt_13 (by decide) ?_
      exact rL hQ F (v := ()) hI dX4_wordAt_14 (by unfold wdE; rw [if_neg (by omega)])
set_option maxHeartbeats 400000 in
set_option maxRecDepth 100000 in
theorem kX4_setWord (l : Launch) (E : EV) (u : SS) (i v : Nat) (hi : i < 16) (hv : v < 16) (x : Int64) : CT l yX4_setWord cX4_setWord 6 none (Rm 0 0) [.ref (eA E 9), .int (nI i), .int (nI v), .long (x)] E u (Q_v E (fun z => z = upG u.2 i v x) (fun (z : GF) => (u.1, z))) := by
  refine mstart RX4 (by decide +kernel) rfl (Nat.le_of_ble_eq_true rfl) ?_
  intro p e s m args below meth co ls Q hQ F hI hl
  have hx := F.1
  have hy := F.2.1
  have hl : lv_has ls 6 [(0, .ref (eA E 9)), (1, .int (nI i)), (2, .int (nI v)), (3, .long (x))] := hl
  refine lv_iload_n hx hy dX4_setWord_0 rfl (lv_at hl 1 rfl) ?_
  refine lv_if_lt (tgt := 13) hx hy dX4_setWord_1 (by decide) (fun h1 => ?_) (fun h1 => ?_)
  · have h1 : i < 0 := (nI_ltI (a := i) (b := 0) (by omega) (by omega)).mp h1
    exact absurd h1 (by omega)
  · have h1 : 0 ≤ i := Nat.le_of_not_lt (fun q9 => h1 ((nI_ltI (a := i) (b := 0) (by omega) (by omega)).mpr q9))
    refine lv_iload_n hx hy dX4_setWord_4 rfl (lv_at hl 1 rfl) ?_
    refine lv_aload_n hx hy dX4_setWord_5 rfl (lv_at hl 0 rfl) ?_
    refine gX4_rows F hI L_X4_11 dX4_setWord_6 ?_
    refine aRn F hI dX4_setWord_9 ?_
    refine lv_icmp_lt (tgt := 14) hx hy dX4_setWord_10 (by decide) (fun h2 => ?_) (fun h2 => ?_)
    · have h2 : i < 16 := (nI_ltI (a := i) (b := 16) (by omega) (by omega)).mp h2
      refine lv_aload_n hx hy dX4_setWord_14 rfl (lv_at hl 0 rfl) ?_
      refine gX4_rows F hI L_X4_11 dX4_setWord_15 ?_
      refine lv_iload_n hx hy dX4_setWord_18 rfl (lv_at hl 1 rfl) ?_
      refine aRl F hI (i := i) (by omega) dX4_setWord_19 ?_
      refine lv_astore (lv' := [(5, .ref (eA E (32 + (i)))), (0, .ref (eA E 9)), (1, .int (nI i)), (2, .int (nI v)), (3, .long (x))]) hx hy dX4_setWord_20 hl (by decide) rfl (fun ls hl => ?_)
      refine lv_iload_n hx hy dX4_setWord_22 rfl (lv_at hl 3 rfl) ?_
      refine lv_if_lt (tgt := 38) hx hy dX4_setWord_23 (by decide) (fun h3 => ?_) (fun h3 => ?_)
      · have h3 : v < 0 := (nI_ltI (a := v) (b := 0) (by omega) (by omega)).mp h3
        exact absurd h3 (by omega)
      · have h3 : 0 ≤ v := Nat.le_of_not_lt (fun q9 => h3 ((nI_ltI (a := v) (b := 0) (by omega) (by omega)).mpr q9))
        refine lv_iload_n hx hy dX4_setWord_26 rfl (lv_at hl 3 rfl) ?_
        refine lv_aload hx hy dX4_setWord_27 (lv_at hl 0 rfl) ?_
        refine aLn F hI (iRow (b := i) (by omega)) dX4_setWord_29 ?_
        refine lv_icmp_ge (tgt := 38) hx hy dX4_setWord_30 (by decide) (fun h4 => ?_) (fun h4 => ?_)
        · have h4 : 16 ≤ v := (nI_leI (a := 16) (b := v) (by omega) (by omega)).mp h4
          exact absurd h4 (by omega)
        · have h4 : v < 16 := Nat.lt_of_not_le (fun q9 => h4 ((nI_leI (a := 16) (b := v) (by omega) (by omega)).mpr q9))
          refine lv_aload hx hy dX4_setWord_33 (lv_at hl 0 rfl) ?_
          refine lv_iload_n hx hy dX4_setWord_35 rfl (lv_at hl 3 rfl) ?_
          refine lv_lload_n hx hy dX4_setWord_36 rfl (lv_at hl 4 rfl) ?_
          refine aLsN F hI (iRow (b := i) (by omega)) (i := v) (by omega) dX4_setWord_37 (fun H locs hI => ?_)
          obtain ⟨g5, eg5⟩ : ∃ z9 : GF, z9 = upG u.2 (i) (v) (x) := ⟨_, rfl⟩
          have hI : Iv E s H locs (u.1, g5) := by rw [eg5]; exact hI
          exact rV hQ F (v := g5) hI dX4_setWord_38 (by rw [eg5])
    · have h2 : 16 ≤ i := Nat.le_of_not_lt (fun q9 => h2 ((nI_ltI (a := i) (b := 16) (by omega) (by omega)).mpr q9))
      exact absurd h2 (by omega)
end
section
set_option maxHeartbeats 400000 in
set_option maxRecDepth 100000 in
theorem kX4_madeWord (l : Launch) (E : EV) (u : SS) {b n : Nat} {f : Nat → Ln} (hb : b < 7) (hR : RepL b u.1 n f) (h16 : n ≤ 16) (j v : Nat) (hj : j < n) (hok : LnOk j (f j)) (hk : 1 ≤ (f j).1) (hv : v < 16) (hW : ∀ i, i < j → RowG u.2 f i (v + 1)) : CT l yX4_madeWord cX4_madeWord 10 (some .long) (Rm 2 43) [.ref (eA E 9), .ref (eA E (10 + 3 * b)), .int (nI j), .int (nI v)] E u (Q_l E (fun z _ => ∀ t, t < 64 → lb z t = bt f j (64 * v + t)) (fun (_ : Unit) => u)) := by
  refine mstart RX4 (by decide +kernel) rfl (Nat.le_of_ble_eq_true rfl) ?_
  intro p e s m args below meth co ls Q hQ F hI hl
  have hx := F.1
  have hy := F.2.1
  have hl : lv_has ls 10 [(0, .ref (eA E 9)), (1, .ref (eA E (10 + 3 * b))), (2, .int (nI j)), (3, .int (nI v))] := hl
  have hA := hok.2.2.1 hk
  have hB9 := hok.2.2.2.2.2.2.1
  have hC9 := hok.2.2.2.2.2.2.2
  have hk6 := hok.1
  refine lv_aload_n hx hy dX4_madeWord_0 rfl (lv_at hl 1 rfl) ?_
  refine lv_iload_n hx hy dX4_madeWord_1 rfl (lv_at hl 2 rfl) ?_
  refine lv_iconst (v := nI 1) hx hy dX4_madeWord_2 (by decide) ?_
  refine zI hI (xV F hI hl (kX0_numberOf l E (u) (b := b) hb (nI j) (nI 1)) M_X4_26 (rX0 F hI (b := b) hb) rfl ⟨Nat.le_of_ble_eq_true rfl, Nat.le_of_ble_eq_true rfl⟩ ⟨Nat.zero_le _, Nat.zero_le _⟩ rfl (Nat.le_of_ble_eq_true rfl) dX4_madeWord_3) (fun r2 v3 H locs hI hp1 => ?_)
  rw [show nI j * nI 3 + nI 1 - nI 1 = nI (3 * j) from ix3 j 0, el_lt (by omega) (by decide)] at hp1
  subst hp1
  refine tI (hR.2 j hj).2.1 ?_
  refine lv_istore (lv' := [(4, .int (nI ((f j).2.1))), (0, .ref (eA E 9)), (1, .ref (eA E (10 + 3 * b))), (2, .int (nI j)), (3, .int (nI v))]) hx hy dX4_madeWord_6 hl (by decide) rfl (fun ls hl => ?_)
  refine lv_aload_n hx hy dX4_madeWord_8 rfl (lv_at hl 2 rfl) ?_
  refine lv_iload_n hx hy dX4_madeWord_9 rfl (lv_at hl 3 rfl) ?_
  refine lv_iconst (v := nI 2) hx hy dX4_madeWord_10 (by decide) ?_
  refine zI hI (xV F hI hl (kX0_numberOf l E (u) (b := b) hb (nI j) (nI 2)) M_X4_26 (rX0 F hI (b := b) hb) rfl ⟨Nat.le_of_ble_eq_true rfl, Nat.le_of_ble_eq_true rfl⟩ ⟨Nat.zero_le _, Nat.zero_le _⟩ rfl (Nat.le_of_ble_eq_true rfl) dX4_madeWord_11) (fun r5 v6 H locs hI hp4 => ?_)
  rw [show nI j * nI 3 + nI 2 - nI 1 = nI (3 * j + 1) from ix3 j 1, el_lt (by omega) (by decide)] at hp4
  subst hp4
  refine tI (hR.2 j hj).2.2.1 ?_
  refine lv_istore (lv' := [(5, .int (nI ((f j).2.2.1))), (4, .int (nI ((f j).2.1))), (0, .ref (eA E 9)), (1, .ref (eA E (10 + 3 * b))), (2, .int (nI j)), (3, .int (nI v))]) hx hy dX4_madeWord_14 hl (by decide) rfl (fun ls hl => ?_)
  refine lv_aload_n hx hy dX4_madeWord_16 rfl (lv_at hl 2 rfl) ?_
  refine lv_iload hx hy dX4_madeWord_17 (lv_at hl 1 rfl) ?_
  refine lv_iload_n hx hy dX4_madeWord_19 rfl (lv_at hl 5 rfl) ?_
  refine zL hI (xV F hI hl (kX4_wordAt l E (u) ((f j).2.1) (by omega) (nI v)) M_X4_45 (rX4 F hI) rfl ⟨Nat.le_of_ble_eq_true rfl, Nat.le_of_ble_eq_true rfl⟩ ⟨Nat.zero_le _, Nat.zero_le _⟩ rfl (Nat.le_of_ble_eq_true rfl) dX4_madeWord_20) (fun r8 v9 H locs hI hp7 => ?_)
  rw [wdE_in (by omega) (by omega)] at hp7
  subst hp7
  refine lv_lstore (lv' := [(6, .long (u.2 ((f j).2.1) v)), (5, .int (nI ((f j).2.2.1))), (4, .int (nI ((f j).2.1))), (0, .ref (eA E 9)), (1, .ref (eA E (10 + 3 * b))), (2, .int (nI j)), (3, .int (nI v))]) hx hy dX4_madeWord_23 hl (by decide) rfl (fun ls hl => ?_)
  refine lv_aload_n hx hy dX4_madeWord_25 rfl (lv_at hl 4 rfl) ?_
  refine lv_iload_n hx hy dX4_madeWord_26 rfl (lv_at hl 5 rfl) ?_
  refine zI hI (xV F hI hl (kX0_kindOf l E (u) (b := b) hb (nI j)) M_X4_20 (rX0 F hI (b := b) hb) rfl ⟨Nat.le_of_ble_eq_true rfl, Nat.le_of_ble_eq_true rfl⟩ ⟨Nat.zero_le _, Nat.zero_le _⟩ rfl (Nat.le_of_ble_eq_true rfl) dX4_madeWord_27) (fun r11 v12 H locs hI hp10 => ?_)
  rw [el_lt (by omega) (by decide)] at hp10
  subst hp10
  refine tI (hR.2 j hj).1 ?_
  rcases (show (f j).1 = 1 ∨ (f j).1 = 2 ∨ (f j).1 = 3 ∨ (f j).1 = 4 ∨ (f j).1 = 5 ∨ (f j).1 = 6 by omega) with hk13 | hk13 | hk13 | hk13 | hk13 | hk13
  · refine tI (show nI ((f j).1) = nI 1 from by rw [hk13]) ?_
    refine lv_tableIn (tgt := 64) hx hy dX4_madeWord_30 (by decide) (by decide) (by rfl) (by decide) ?_
    have hB := hok.2.2.2.1 (by omega) (by omega)
    refine lv_lload hx hy dX4_madeWord_64 (lv_at hl 0 rfl) ?_
    refine lv_aload_n hx hy dX4_madeWord_66 rfl (lv_at hl 3 rfl) ?_
    refine lv_iload hx hy dX4_madeWord_67 (lv_at hl 1 rfl) ?_
    refine lv_iload_n hx hy dX4_madeWord_69 rfl (lv_at hl 6 rfl) ?_
    refine zL hI (xV F hI hl (kX4_wordAt l E (u) ((f j).2.2.1) (by omega) (nI v)) M_X4_45 (rX4 F hI) rfl ⟨Nat.le_of_ble_eq_true rfl, Nat.le_of_ble_eq_true rfl⟩ ⟨Nat.zero_le _, Nat.zero_le _⟩ rfl (Nat.le_of_ble_eq_true rfl) dX4_madeWord_70) (fun r15 v16 H locs hI hp14 => ?_)
    rw [wdE_in (by omega) (by omega)] at hp14
    subst hp14
    refine lv_land hx hy dX4_madeWord_73 ?_
    exact rL hQ F (v := ()) hI dX4_madeWord_74 (fun t ht => by rw [lb_and, hW _ hA v (by omega) t ht, hW _ hB v (by omega) t ht, bt_1 hok hk13])
  · refine tI (show nI ((f j).1) = nI 2 from by rw [hk13]) ?_
    refine lv_tableIn (tgt := 75) hx hy dX4_madeWord_30 (by decide) (by decide) (by rfl) (by decide) ?_
    have hB := hok.2.2.2.1 (by omega) (by omega)
    refine lv_lload hx hy dX4_madeWord_75 (lv_at hl 0 rfl) ?_
    refine lv_aload_n hx hy dX4_madeWord_77 rfl (lv_at hl 3 rfl) ?_
    refine lv_iload hx hy dX4_madeWord_78 (lv_at hl 1 rfl) ?_
    refine lv_iload_n hx hy dX4_madeWord_80 rfl (lv_at hl 6 rfl) ?_
    refine zL hI (xV F hI hl (kX4_wordAt l E (u) ((f j).2.2.1) (by omega) (nI v)) M_X4_45 (rX4 F hI) rfl ⟨Nat.le_of_ble_eq_true rfl, Nat.le_of_ble_eq_true rfl⟩ ⟨Nat.zero_le _, Nat.zero_le _⟩ rfl (Nat.le_of_ble_eq_true rfl) dX4_madeWord_81) (fun r18 v19 H locs hI hp17 => ?_)
    rw [wdE_in (by omega) (by omega)] at hp17
    subst hp17
    refine lv_lor hx hy dX4_madeWord_84 ?_
    exact rL hQ F (v := ()) hI dX4_madeWord_85 (fun t ht => by rw [lb_or, hW _ hA v (by omega) t ht, hW _ hB v (by omega) t ht, bt_2 hok hk13])
  · refine tI (show nI ((f j).1) = nI 3 from by rw [hk13]) ?_
    refine lv_tableIn (tgt := 86) hx hy dX4_madeWord_30 (by decide) (by decide) (by rfl) (by decide) ?_
    have hB := hok.2.2.2.1 (by omega) (by omega)
    refine lv_lload hx hy dX4_madeWord_86 (lv_at hl 0 rfl) ?_
    refine lv_aload_n hx hy dX4_madeWord_88 rfl (lv_at hl 3 rfl) ?_
    refine lv_iload hx hy dX4_madeWord_89 (lv_at hl 1 rfl) ?_
    refine lv_iload_n hx hy dX4_madeWord_91 rfl (lv_at hl 6 rfl) ?_
    refine zL hI (xV F hI hl (kX4_wordAt l E (u) ((f j).2.2.1) (by omega) (nI v)) M_X4_45 (rX4 F hI) rfl ⟨Nat.le_of_ble_eq_true rfl, Nat.le_of_ble_eq_true rfl⟩ ⟨Nat.zero_le _, Nat.zero_le _⟩ rfl (Nat.le_of_ble_eq_true rfl) dX4_madeWord_92) (fun r21 v22 H locs hI hp20 => ?_)
    rw [wdE_in (by omega) (by omega)] at hp20
    subst hp20
    refine lv_lxor hx hy dX4_madeWord_95 ?_
    exact rL hQ F (v := ()) hI dX4_madeWord_96 (fun t ht => by rw [lb_xor, hW _ hA v (by omega) t ht, hW _ hB v (by omega) t ht, bt_3 hok hk13])
  · refine tI (show nI ((f j).1) = nI 4 from by rw [hk13]) ?_
    refine lv_tableIn (tgt := 97) hx hy dX4_madeWord_30 (by decide) (by decide) (by rfl) (by decide) ?_
    have hB := hok.2.2.2.1 (by omega) (by omega)
    have hC := hok.2.2.2.2.1 hk13
    refine lv_aload_n hx hy dX4_madeWord_97 rfl (lv_at hl 3 rfl) ?_
    refine lv_aload_n hx hy dX4_madeWord_98 rfl (lv_at hl 4 rfl) ?_
    refine lv_iload_n hx hy dX4_madeWord_99 rfl (lv_at hl 5 rfl) ?_
    refine lv_iconst (v := nI 3) hx hy dX4_madeWord_100 (by decide) ?_
    refine zI hI (xV F hI hl (kX0_numberOf l E (u) (b := b) hb (nI j) (nI 3)) M_X4_26 (rX0 F hI (b := b) hb) rfl ⟨Nat.le_of_ble_eq_true rfl, Nat.le_of_ble_eq_true rfl⟩ ⟨Nat.zero_le _, Nat.zero_le _⟩ rfl (Nat.le_of_ble_eq_true rfl) dX4_madeWord_101) (fun r24 v25 H locs hI hp23 => ?_)
    rw [show nI j * nI 3 + nI 3 - nI 1 = nI (3 * j + 2) from ix3 j 2, el_lt (by omega) (by decide)] at hp23
    subst hp23
    refine tI (hR.2 j hj).2.2.2 ?_
    refine lv_iload_n hx hy dX4_madeWord_104 rfl (lv_at hl 6 rfl) ?_
    refine zL hI (xV F hI hl (kX4_wordAt l E (u) ((f j).2.2.2) (by omega) (nI v)) M_X4_45 (rX4 F hI) rfl ⟨Nat.le_of_ble_eq_true rfl, Nat.le_of_ble_eq_true rfl⟩ ⟨Nat.zero_le _, Nat.zero_le _⟩ rfl (Nat.le_of_ble_eq_true rfl) dX4_madeWord_105) (fun r27 v28 H locs hI hp26 => ?_)
    rw [wdE_in (by omega) (by omega)] at hp26
    subst hp26
    refine lv_lstore (lv' := [(8, .long (u.2 ((f j).2.2.2) v)), (6, .long (u.2 ((f j).2.1) v)), (5, .int (nI ((f j).2.2.1))), (4, .int (nI ((f j).2.1))), (0, .ref (eA E 9)), (1, .ref (eA E (10 + 3 * b))), (2, .int (nI j)), (3, .int (nI v))]) hx hy dX4_madeWord_108 hl (by decide) rfl (fun ls hl => ?_)
    refine lv_lload hx hy dX4_madeWord_110 (lv_at hl 1 rfl) ?_
    refine lv_lload hx hy dX4_madeWord_112 (lv_at hl 0 rfl) ?_
    refine lv_land hx hy dX4_madeWord_114 ?_
    refine lv_aload_n hx hy dX4_madeWord_115 rfl (lv_at hl 4 rfl) ?_
    refine lv_iload hx hy dX4_madeWord_116 (lv_at hl 2 rfl) ?_
    refine lv_iload_n hx hy dX4_madeWord_118 rfl (lv_at hl 7 rfl) ?_
    refine zL hI (xV F hI hl (kX4_wordAt l E (u) ((f j).2.2.1) (by omega) (nI v)) M_X4_45 (rX4 F hI) rfl ⟨Nat.le_of_ble_eq_true rfl, Nat.le_of_ble_eq_true rfl⟩ ⟨Nat.zero_le _, Nat.zero_le _⟩ rfl (Nat.le_of_ble_eq_true rfl) dX4_madeWord_119) (fun r30 v31 H locs hI hp29 => ?_)
    rw [wdE_in (by omega) (by omega)] at hp29
    subst hp29
    refine lv_lload hx hy dX4_madeWord_122 (lv_at hl 0 rfl) ?_
    refine zcl F K_X4_49 dX4_madeWord_124 ?_
    refine tL (show _ = lN 18446744073709551615 from rfl) ?_
    refine lv_lxor hx hy dX4_madeWord_127 ?_
    refine lv_land hx hy dX4_madeWord_128 ?_
    refine lv_lor hx hy dX4_madeWord_129 ?_
    exact rL hQ F (v := ()) hI dX4_madeWord_130 (fun t ht => by rw [lb_or, lb_and, lb_and, lb_xor, lb_m1 ht, hW _ hA v (by omega) t ht, hW _ hB v (by omega) t ht, hW _ hC v (by omega) t ht, bt_4 hok hk13]; cases bt f (f j).2.2.2 (64 * v + t) <;> simp)
  · refine tI (show nI ((f j).1) = nI 5 from by rw [hk13]) ?_
    refine lv_tableIn (tgt := 131) hx hy dX4_madeWord_30 (by decide) (by decide) (by rfl) (by decide) ?_
    refine lv_lload hx hy dX4_madeWord_131 (lv_at hl 0 rfl) ?_
    refine zcl F K_X4_49 dX4_madeWord_133 ?_
    refine tL (show _ = lN 18446744073709551615 from rfl) ?_
    refine lv_lxor hx hy dX4_madeWord_136 ?_
    exact rL hQ F (v := ()) hI dX4_madeWord_137 (fun t ht => by rw [lb_xor, lb_m1 ht, hW _ hA v (by omega) t ht, bt_5 hok hk13, Bool.xor_true])
  · refine tI (show nI ((f j).1) = nI 6 from by rw [hk13]) ?_
    refine lv_tableOut (tgt := 138) hx hy dX4_madeWord_30 (by decide) (by decide) ?_
    have hD := hok.2.2.2.2.2.1 hk13
    refine lv_lload hx hy dX4_madeWord_138 (lv_at hl 0 rfl) ?_
    refine lv_iload hx hy dX4_madeWord_140 (lv_at hl 1 rfl) ?_
    refine lv_lshl (v := (u.2 ((f j).2.1) v) <<< (Int32.toInt64 (nI ((f j).2.2.1)) &&& 63)) hx hy dX4_madeWord_142 rfl ?_
    refine lv_aload_n hx hy dX4_madeWord_143 rfl (lv_at hl 3 rfl) ?_
    refine lv_iload hx hy dX4_madeWord_144 (lv_at hl 2 rfl) ?_
    refine lv_iload_n hx hy dX4_madeWord_146 rfl (lv_at hl 6 rfl) ?_
    refine lv_iconst (v := nI 1) hx hy dX4_madeWord_147 (by decide) ?_
    by_cases hv32 : v = 0
    · refine lv_isub hx hy dX4_madeWord_148 ?_
      refine tI (show nI v - nI 1 = -1 from by rw [hv32]; decide) ?_
      refine zL hI (xV F hI hl (kX4_wordAt l E (u) ((f j).2.1) (by omega) (-1)) M_X4_45 (rX4 F hI) rfl ⟨Nat.le_of_ble_eq_true rfl, Nat.le_of_ble_eq_true rfl⟩ ⟨Nat.zero_le _, Nat.zero_le _⟩ rfl (Nat.le_of_ble_eq_true rfl) dX4_madeWord_149) (fun r34 v35 H locs hI hp33 => ?_)
      subst hp33
      refine lv_bipush (v := nI 64) hx hy dX4_madeWord_152 (by decide) ?_
      refine lv_iload hx hy dX4_madeWord_154 (lv_at hl 1 rfl) ?_
      refine lv_isub hx hy dX4_madeWord_156 ?_
      refine tI (pk_sub (a := 64) (b := (f j).2.2.1) (by omega)) ?_
      refine lv_lushr (v := (Int64.toUInt64 (wdE (u.2) ((f j).2.1) (-1)) >>> ((Int32.toInt64 (nI (64 - ((f j).2.2.1)))).toUInt64 &&& Int64.toUInt64 63)).toInt64) hx hy dX4_madeWord_157 rfl ?_
      refine lv_lor hx hy dX4_madeWord_158 ?_
      exact rL hQ F (v := ()) hI dX4_madeWord_159 (fun t ht => mw_6 hok hk13 rfl hD.1 hD.2 ht (fun t ht => hW _ hA v (by omega) t ht) (fun _ => wdE_m1 (by omega)) (fun w hw => absurd hw (by omega)))
    · refine lv_isub hx hy dX4_madeWord_148 ?_
      refine tI (pk_sub (a := v) (b := 1) (by omega)) ?_
      refine zL hI (xV F hI hl (kX4_wordAt l E (u) ((f j).2.1) (by omega) (nI (v - 1))) M_X4_45 (rX4 F hI) rfl ⟨Nat.le_of_ble_eq_true rfl, Nat.le_of_ble_eq_true rfl⟩ ⟨Nat.zero_le _, Nat.zero_le _⟩ rfl (Nat.le_of_ble_eq_true rfl) dX4_madeWord_149) (fun r37 v38 H locs hI hp36 => ?_)
      rw [wdE_in (by omega) (by omega)] at hp36
      subst hp36
      refine lv_bipush (v := nI 64) hx hy dX4_madeWord_152 (by decide) ?_
      refine lv_iload hx hy dX4_madeWord_154 (lv_at hl 1 rfl) ?_
      refine lv_isub hx hy dX4_madeWord_156 ?_
      refine tI (pk_sub (a := 64) (b := (f j).2.2.1) (by omega)) ?_
      refine lv_lushr (v := (Int64.toUInt64 (u.2 ((f j).2.1) (v - 1)) >>> ((Int32.toInt64 (nI (64 - ((f j).2.2.1)))).toUInt64 &&& Int64.toUInt64 63)).toInt64) hx hy dX4_madeWord_157 rfl ?_
      refine lv_lor hx hy dX4_madeWord_158 ?_
      exact rL hQ F (v := ()) hI dX4_madeWord_159 (fun t ht => mw_6 hok hk13 rfl hD.1 hD.2 ht (fun t ht => hW _ hA v (by omega) t ht) (fun e9 => absurd e9 hv32) (fun w hw t ht => by have e9 : v - 1 = w := (by omega); rw [e9]; exact hW _ hA w (by omega) t ht))
set_option maxHeartbeats 400000 in
set_option maxRecDepth 100000 in
theorem kX4_fillSource (l : Launch) (E : EV) (u : SS) (j sh sd w : Nat) (hj : j < 16) (hsh : sh ≤ 256) (hsd : sd < 256) (hw : w ≤ 16) : CT l yX4_fillSource cX4_fillSource 10 none (Rm 1 25) [.ref (eA E 9), .int (nI j), .int (nI sh), .int (nI sd), .int (nI w)] E u (Q_v E (fun g => SrcG g j sh sd w ∧ OthG j u.2 g) (fun (g : GF) => (u.1, g))) := by
  refine mstart RX4 (by decide +kernel) rfl (Nat.le_of_ble_eq_true rfl) ?_
  intro p e s m args below meth co ls Q hQ F hI hl
  have hx := F.1
  have hy := F.2.1
  have hl : lv_has ls 10 [(0, .ref (eA E 9)), (1, .int (nI j)), (2, .int (nI sh)), (3, .int (nI sd)), (4, .int (nI w))] := hl
  refine lv_iload_n hx hy dX4_fillSource_0 rfl (lv_at hl 3 rfl) ?_
  refine lv_istore (lv' := [(5, .int (nI sd)), (0, .ref (eA E 9)), (1, .int (nI j)), (2, .int (nI sh)), (3, .int (nI sd)), (4, .int (nI w))]) hx hy dX4_fillSource_1 hl (by decide) rfl (fun ls hl => ?_)
  refine lv_iconst (v := nI 0) hx hy dX4_fillSource_3 (by decide) ?_
  refine lv_istore (lv' := [(6, .int (nI 0)), (5, .int (nI sd)), (0, .ref (eA E 9)), (1, .int (nI j)), (2, .int (nI sh)), (3, .int (nI sd)), (4, .int (nI w))]) hx hy dX4_fillSource_4 hl (by decide) rfl (fun ls hl => ?_)
  have lp1 : ∀ (fu : Nat) (v : Nat) (g : GF), (v ≤ w) → (w - v < fu) → (SrcG g j sh sd v) → (OthG j u.2 g) →  ∀ (H : Heap) (locs : List Loc) (ls : Array Slot), Iv E s H locs ((u.1, g)) → lv_has ls 10 [(6, .int (nI v)), (5, .int (nI (reg sd (64 * v)))), (0, .ref (eA E 9)), (1, .int (nI j)), (2, .int (nI sh)), (3, .int (nI sd)), (4, .int (nI w))] → W p l e (Rm 1 25) s m args below meth co H locs 0 0 Q (F0 m 6 ls []) := by
    intro fu
    induction fu with
    | zero => intro v g hi hf hG hO; exact absurd hf (Nat.not_lt_zero _)
    | succ fu ih =>
      intro v g hi hf hG hO H locs ls hI hl
      have ih_6 := ih
      refine lv_iload hx hy dX4_fillSource_6 (lv_at hl 0 rfl) ?_
      refine lv_iload hx hy dX4_fillSource_8 (lv_at hl 6 rfl) ?_
      refine lv_icmp_ge (tgt := 69) hx hy dX4_fillSource_10 (by decide) (fun h2 => ?_) (fun h2 => ?_)
      · have h2 : w ≤ v := (nI_leI (a := w) (b := v) (by omega) (by omega)).mp h2
        exact rV hQ F (v := g) hI dX4_fillSource_69 (by have e9 : v = w := (by omega); rw [← e9]; exact ⟨hG, hO⟩)
      · have h2 : v < w := Nat.lt_of_not_le (fun q9 => h2 ((nI_leI (a := w) (b := v) (by omega) (by omega)).mpr q9))
        refine lv_lconst (v := lN 0) hx hy dX4_fillSource_13 (by decide) ?_
        refine lv_lstore (lv' := [(7, .long (lN 0)), (6, .int (nI v)), (5, .int (nI (reg sd (64 * v)))), (0, .ref (eA E 9)), (1, .int (nI j)), (2, .int (nI sh)), (3, .int (nI sd)), (4, .int (nI w))]) hx hy dX4_fillSource_14 hl (by decide) rfl (fun ls hl => ?_)
        refine lv_iconst (v := nI 0) hx hy dX4_fillSource_16 (by decide) ?_
        refine lv_istore (lv' := [(9, .int (nI 0)), (7, .long (lN 0)), (6, .int (nI v)), (5, .int (nI (reg sd (64 * v)))), (0, .ref (eA E 9)), (1, .int (nI j)), (2, .int (nI sh)), (3, .int (nI sd)), (4, .int (nI w))]) hx hy dX4_fillSource_17 hl (by decide) rfl (fun ls hl => ?_)
        have lp3 : ∀ (fu : Nat) (k : Nat) (x : Int64), (k ≤ 64) → (64 - k < fu) → (SrcX x v sh sd k) →  ∀ (H : Heap) (locs : List Loc) (ls : Array Slot), Iv E s H locs ((u.1, g)) → lv_has ls 10 [(9, .int (nI k)), (7, .long (x)), (6, .int (nI v)), (5, .int (nI (reg sd (64 * v + k)))), (0, .ref (eA E 9)), (1, .int (nI j)), (2, .int (nI sh)), (3, .int (nI sd)), (4, .int (nI w))] → W p l e (Rm 1 25) s m args below meth co H locs 0 0 Q (F0 m 19 ls []) := by
          intro fu
          induction fu with
          | zero => intro k x hi2 hf2 hX; exact absurd hf2 (Nat.not_lt_zero _)
          | succ fu ih =>
            intro k x hi2 hf2 hX H locs ls hI hl
            have ih_19 := ih
            refine lv_iload hx hy dX4_fillSource_19 (lv_at hl 0 rfl) ?_
            refine lv_bipush (v := nI 64) hx hy dX4_fillSource_21 (by decide) ?_
            refine lv_icmp_ge (tgt := 54) hx hy dX4_fillSource_23 (by decide) (fun h4 => ?_) (fun h4 => ?_)
            · have h4 : 64 ≤ k := (nI_leI (a := 64) (b := k) (by omega) (by omega)).mp h4
              have e8 : k = 64 := by omega
              have hX8 : SrcX x v sh sd 64 := by rw [← e8]; exact hX
              refine lv_aload_n hx hy dX4_fillSource_54 rfl (lv_at hl 4 rfl) ?_
              refine lv_iload_n hx hy dX4_fillSource_55 rfl (lv_at hl 5 rfl) ?_
              refine lv_iload hx hy dX4_fillSource_56 (lv_at hl 2 rfl) ?_
              refine lv_lload hx hy dX4_fillSource_58 (lv_at hl 1 rfl) ?_
              refine zV hI (xV F hI hl (kX4_setWord l E ((u.1, g)) j v (by omega) (by omega) x) M_X4_38 (rX4 F hI) rfl ⟨Nat.le_of_ble_eq_true rfl, Nat.le_of_ble_eq_true rfl⟩ ⟨Nat.zero_le _, Nat.zero_le _⟩ rfl (Nat.le_of_ble_eq_true rfl) dX4_fillSource_60) (fun v7 H locs hI hp5 => ?_)
              subst hp5
              obtain ⟨g8, eg8⟩ : ∃ z9 : GF, z9 = upG g j v x := ⟨_, rfl⟩
              have hI : Iv E s H locs (u.1, g8) := by rw [eg8]; exact hI
              refine lv_iinc (v := nI (v + 1)) (lv' := [(6, .int (nI (v + 1))), (9, .int (nI k)), (7, .long (x)), (5, .int (nI (reg sd (64 * v + k)))), (0, .ref (eA E 9)), (1, .int (nI j)), (2, .int (nI sh)), (3, .int (nI sd)), (4, .int (nI w))]) hx hy dX4_fillSource_63 hl (k := 2) rfl (nI_add (v) 1) (by decide) rfl (fun ls hl => ?_)
              rw [show 64 * v + k = 64 * (v + 1) from by omega] at hl
              refine lv_goto (tgt := 6) hx hy dX4_fillSource_66 (by decide) ?_
              exact ih_6 (v + 1) g8 (by omega) (by omega) (hG.step hO hX8 eg8).1 (hG.step hO hX8 eg8).2 _ _ _ hI (lv_sub hl [0, 3, 4, 5, 6, 7, 8] rfl)
            · have h4 : k < 64 := Nat.lt_of_not_le (fun q9 => h4 ((nI_leI (a := 64) (b := k) (by omega) (by omega)).mpr q9))
              refine lv_iload hx hy dX4_fillSource_26 (lv_at hl 3 rfl) ?_
              refine lv_iload_n hx hy dX4_fillSource_28 rfl (lv_at hl 6 rfl) ?_
              refine lv_icmp_gt (tgt := 41) hx hy dX4_fillSource_29 (by decide) (fun h9 => ?_) (fun h9 => ?_)
              · have h9 : sh < reg sd (64 * v + k) := (nI_ltI (a := sh) (b := reg sd (64 * v + k)) (by omega) (by have := reg_lt hsd (64 * v + k); omega)).mp h9
                refine lv_iload hx hy dX4_fillSource_41 (lv_at hl 3 rfl) ?_
                refine zI hI (xS F hI hl (kX4_nextRegister l E ((u.1, g)) (reg sd (64 * v + k)) (reg_lt hsd _)) M_X4_42 rfl ⟨Nat.le_of_ble_eq_true rfl, Nat.le_of_ble_eq_true rfl⟩ ⟨Nat.zero_le _, Nat.zero_le _⟩ rfl (Nat.le_of_ble_eq_true rfl) dX4_fillSource_43) (fun r11 v12 H locs hI hp10 => ?_)
                subst hp10
                refine lv_istore (lv' := [(5, .int (nI (nr (reg sd (64 * v + k))))), (9, .int (nI k)), (7, .long (x)), (6, .int (nI v)), (0, .ref (eA E 9)), (1, .int (nI j)), (2, .int (nI sh)), (3, .int (nI sd)), (4, .int (nI w))]) hx hy dX4_fillSource_46 hl (by decide) rfl (fun ls hl => ?_)
                have hl : lv_has ls 10 [(5, .int (nI (reg sd (64 * v + (k + 1))))), (9, .int (nI k)), (7, .long (x)), (6, .int (nI v)), (0, .ref (eA E 9)), (1, .int (nI j)), (2, .int (nI sh)), (3, .int (nI sd)), (4, .int (nI w))] := hl
                refine lv_iinc (v := nI (k + 1)) (lv' := [(9, .int (nI (k + 1))), (5, .int (nI (reg sd (64 * v + (k + 1))))), (7, .long (x)), (6, .int (nI v)), (0, .ref (eA E 9)), (1, .int (nI j)), (2, .int (nI sh)), (3, .int (nI sd)), (4, .int (nI w))]) hx hy dX4_fillSource_48 hl (k := 1) rfl (nI_add (k) 1) (by decide) rfl (fun ls hl => ?_)
                refine lv_goto (tgt := 19) hx hy dX4_fillSource_51 (by decide) ?_
                exact ih_19 (k + 1) (x) (by omega) (by omega) (hX.skip (by omega) (by omega)) _ _ _ hI (lv_sub hl [0, 2, 3, 1, 4, 5, 6, 7, 8] rfl)
              · have h9 : reg sd (64 * v + k) ≤ sh := Nat.le_of_not_lt (fun q9 => h9 ((nI_ltI (a := sh) (b := reg sd (64 * v + k)) (by omega) (by have := reg_lt hsd (64 * v + k); omega)).mpr q9))
                refine lv_lload hx hy dX4_fillSource_32 (lv_at hl 1 rfl) ?_
                refine lv_lconst (v := lN 1) hx hy dX4_fillSource_34 (by decide) ?_
                refine lv_iload hx hy dX4_fillSource_35 (lv_at hl 0 rfl) ?_
                refine lv_lshl (v := (lN 1) <<< (Int32.toInt64 (nI k) &&& 63)) hx hy dX4_fillSource_37 rfl ?_
                refine lv_lor hx hy dX4_fillSource_38 ?_
                refine lv_lstore (lv' := [(7, .long (x ||| ((lN 1) <<< (Int32.toInt64 (nI k) &&& 63)))), (9, .int (nI k)), (6, .int (nI v)), (5, .int (nI (reg sd (64 * v + k)))), (0, .ref (eA E 9)), (1, .int (nI j)), (2, .int (nI sh)), (3, .int (nI sd)), (4, .int (nI w))]) hx hy dX4_fillSource_39 hl (by decide) rfl (fun ls hl => ?_)
                refine lv_iload hx hy dX4_fillSource_41 (lv_at hl 3 rfl) ?_
                refine zI hI (xS F hI hl (kX4_nextRegister l E ((u.1, g)) (reg sd (64 * v + k)) (reg_lt hsd _)) M_X4_42 rfl ⟨Nat.le_of_ble_eq_true rfl, Nat.le_of_ble_eq_true rfl⟩ ⟨Nat.zero_le _, Nat.zero_le _⟩ rfl (Nat.le_of_ble_eq_true rfl) dX4_fillSource_43) (fun r14 v15 H locs hI hp13 => ?_)
                subst hp13
                refine lv_istore (lv' := [(5, .int (nI (nr (reg sd (64 * v + k))))), (7, .long (x ||| ((lN 1) <<< (Int32.toInt64 (nI k) &&& 63)))), (9, .int (nI k)), (6, .int (nI v)), (0, .ref (eA E 9)), (1, .int (nI j)), (2, .int (nI sh)), (3, .int (nI sd)), (4, .int (nI w))]) hx hy dX4_fillSource_46 hl (by decide) rfl (fun ls hl => ?_)
                have hl : lv_has ls 10 [(5, .int (nI (reg sd (64 * v + (k + 1))))), (7, .long (x ||| ((lN 1) <<< (Int32.toInt64 (nI k) &&& 63)))), (9, .int (nI k)), (6, .int (nI v)), (0, .ref (eA E 9)), (1, .int (nI j)), (2, .int (nI sh)), (3, .int (nI sd)), (4, .int (nI w))] := hl
                refine lv_iinc (v := nI (k + 1)) (lv' := [(9, .int (nI (k + 1))), (5, .int (nI (reg sd (64 * v + (k + 1))))), (7, .long (x ||| ((lN 1) <<< (Int32.toInt64 (nI k) &&& 63)))), (6, .int (nI v)), (0, .ref (eA E 9)), (1, .int (nI j)), (2, .int (nI sh)), (3, .int (nI sd)), (4, .int (nI w))]) hx hy dX4_fillSource_48 hl (k := 2) rfl (nI_add (k) 1) (by decide) rfl (fun ls hl => ?_)
                refine lv_goto (tgt := 19) hx hy dX4_fillSource_51 (by decide) ?_
                exact ih_19 (k + 1) (x ||| ((lN 1) <<< (Int32.toInt64 (nI k) &&& 63))) (by omega) (by omega) (hX.set (by omega) h9) _ _ _ hI (lv_sub hl [0, 2, 3, 1, 4, 5, 6, 7, 8] rfl)
        exact lp3 65 0 (lN 0) (by omega) (by omega) (SrcX.start v sh sd) _ _ _ hI (lv_sub hl [0, 1, 2, 3, 4, 5, 6, 7, 8] rfl)
  exact lp1 (w + 1) 0 u.2 (Nat.zero_le _) (by omega) (fun v hv => absurd hv (Nat.not_lt_zero v)) (fun _ _ _ => rfl) _ _ _ hI (lv_sub hl [0, 1, 2, 3, 4, 5, 6] rfl)
set_option maxHeartbeats 400000 in
set_option maxRecDepth 100000 in
theorem kX4_fillRow (l : Launch) (E : EV) (u : SS) {b n : Nat} {f : Nat → Ln} (hb : b < 7) (hR : RepL b u.1 n f) (h16 : n ≤ 16) (j tk w : Nat) (hj : j < n) (hok : LnOk j (f j)) (htk : tk ≤ 1000) (hw : w = (tk + 64 - 1) / 64) (hW : ∀ i, i < j → RowG u.2 f i w) : CT l yX4_fillRow cX4_fillRow 6 none (Rm 3 72) [.ref (eA E 9), .ref (eA E (10 + 3 * b)), .int (nI j), .int (nI tk)] E u (Q_v E (fun g => RowG g f j w ∧ OthG j u.2 g) (fun (g : GF) => (u.1, g))) := by
  refine mstart RX4 (by decide +kernel) rfl (Nat.le_of_ble_eq_true rfl) ?_
  intro p e s m args below meth co ls Q hQ F hI hl
  have hx := F.1
  have hy := F.2.1
  have hl : lv_has ls 6 [(0, .ref (eA E 9)), (1, .ref (eA E (10 + 3 * b))), (2, .int (nI j)), (3, .int (nI tk))] := hl
  have hk6 := hok.1
  have hB9 := hok.2.2.2.2.2.2.1
  have hw16 : w ≤ 16 := by omega
  refine lv_iload_n hx hy dX4_fillRow_0 rfl (lv_at hl 3 rfl) ?_
  refine lv_bipush (v := nI 64) hx hy dX4_fillRow_1 (by decide) ?_
  refine lv_iadd hx hy dX4_fillRow_3 ?_
  refine tI (nI_add (tk) (64)) ?_
  refine lv_iconst (v := nI 1) hx hy dX4_fillRow_4 (by decide) ?_
  refine lv_isub hx hy dX4_fillRow_5 ?_
  refine tI (pk_sub (a := tk + 64) (b := 1) (by omega)) ?_
  refine lv_bipush (v := nI 64) hx hy dX4_fillRow_6 (by decide) ?_
  refine lv_idiv hx hy dX4_fillRow_8 (fun q => absurd ((nI_eq (by omega) (by omega)).mp (show nI (64) = nI 0 from q)) (by omega)) ?_
  refine tI (pk_div (a := (tk + 64) - 1) (d := 64) (by omega) (by omega) (by omega)) ?_
  refine tI (show _ = nI w from by rw [hw]) ?_
  refine lv_istore (lv' := [(4, .int (nI w)), (0, .ref (eA E 9)), (1, .ref (eA E (10 + 3 * b))), (2, .int (nI j)), (3, .int (nI tk))]) hx hy dX4_fillRow_9 hl (by decide) rfl (fun ls hl => ?_)
  refine lv_aload_n hx hy dX4_fillRow_11 rfl (lv_at hl 2 rfl) ?_
  refine lv_iload_n hx hy dX4_fillRow_12 rfl (lv_at hl 3 rfl) ?_
  refine zI hI (xV F hI hl (kX0_kindOf l E (u) (b := b) hb (nI j)) M_X4_20 (rX0 F hI (b := b) hb) rfl ⟨Nat.le_of_ble_eq_true rfl, Nat.le_of_ble_eq_true rfl⟩ ⟨Nat.zero_le _, Nat.zero_le _⟩ rfl (Nat.le_of_ble_eq_true rfl) dX4_fillRow_13) (fun r2 v3 H locs hI hp1 => ?_)
  rw [el_lt (by omega) (by decide)] at hp1
  subst hp1
  refine tI (hR.2 j hj).1 ?_
  refine lv_if_ne (tgt := 39) hx hy dX4_fillRow_16 (by decide) (fun h4 => ?_) (fun h4 => ?_)
  · have h4 : (f j).1 ≠ 0 := fun q9 => h4 ((nI_eq (a := (f j).1) (b := 0) (by omega) (by omega)).mpr q9)
    refine lv_iconst (v := nI 0) hx hy dX4_fillRow_39 (by decide) ?_
    refine lv_istore (lv' := [(5, .int (nI 0)), (4, .int (nI w)), (0, .ref (eA E 9)), (1, .ref (eA E (10 + 3 * b))), (2, .int (nI j)), (3, .int (nI tk))]) hx hy dX4_fillRow_40 hl (by decide) rfl (fun ls hl => ?_)
    have lp5 : ∀ (fu : Nat) (v : Nat) (g : GF), (v ≤ w) → (w - v < fu) → (RowG g f j v) → (OthG j u.2 g) →  ∀ (H : Heap) (locs : List Loc) (ls : Array Slot), Iv E s H locs ((u.1, g)) → lv_has ls 6 [(5, .int (nI v)), (4, .int (nI w)), (0, .ref (eA E 9)), (1, .ref (eA E (10 + 3 * b))), (2, .int (nI j)), (3, .int (nI tk))] → W p l e (Rm 3 72) s m args below meth co H locs 0 0 Q (F0 m 42 ls []) := by
      intro fu
      induction fu with
      | zero => intro v g hi hf hG hO; exact absurd hf (Nat.not_lt_zero _)
      | succ fu ih =>
        intro v g hi hf hG hO H locs ls hI hl
        have ih_42 := ih
        refine lv_iload hx hy dX4_fillRow_42 (lv_at hl 0 rfl) ?_
        refine lv_iload hx hy dX4_fillRow_44 (lv_at hl 1 rfl) ?_
        refine lv_icmp_ge (tgt := 70) hx hy dX4_fillRow_46 (by decide) (fun h6 => ?_) (fun h6 => ?_)
        · have h6 : w ≤ v := (nI_leI (a := w) (b := v) (by omega) (by omega)).mp h6
          exact rV hQ F (v := g) hI dX4_fillRow_70 (by have e9 : v = w := (by omega); rw [← e9]; exact ⟨hG, hO⟩)
        · have h6 : v < w := Nat.lt_of_not_le (fun q9 => h6 ((nI_leI (a := w) (b := v) (by omega) (by omega)).mpr q9))
          refine lv_aload_n hx hy dX4_fillRow_49 rfl (lv_at hl 2 rfl) ?_
          refine lv_iload_n hx hy dX4_fillRow_50 rfl (lv_at hl 4 rfl) ?_
          refine lv_iload hx hy dX4_fillRow_51 (lv_at hl 0 rfl) ?_
          refine lv_aload_n hx hy dX4_fillRow_53 rfl (lv_at hl 2 rfl) ?_
          refine lv_aload_n hx hy dX4_fillRow_54 rfl (lv_at hl 3 rfl) ?_
          refine lv_iload_n hx hy dX4_fillRow_55 rfl (lv_at hl 4 rfl) ?_
          refine lv_iload hx hy dX4_fillRow_56 (lv_at hl 0 rfl) ?_
          refine zL hI (xV F hI hl (kX4_madeWord l E ((u.1, g)) (b := b) (n := n) (f := f) hb hR h16 j v hj hok (by omega) (by omega) (fun i hi => ((hW i hi).keep hO (by omega)).less (by omega))) M_X4_34 (rX4 F hI) rfl ⟨Nat.le_of_ble_eq_true rfl, Nat.le_of_ble_eq_true rfl⟩ ⟨Nat.zero_le _, Nat.zero_le _⟩ rfl (Nat.le_of_ble_eq_true rfl) dX4_fillRow_58) (fun r8 v9 H locs hI hp7 => ?_)
          refine zV hI (xV F hI hl (kX4_setWord l E ((u.1, g)) j v (by omega) (by omega) r8) M_X4_38 (rX4 F hI) rfl ⟨Nat.le_of_ble_eq_true rfl, Nat.le_of_ble_eq_true rfl⟩ ⟨Nat.zero_le _, Nat.zero_le _⟩ rfl (Nat.le_of_ble_eq_true rfl) dX4_fillRow_61) (fun v12 H locs hI hp10 => ?_)
          subst hp10
          obtain ⟨g13, eg13⟩ : ∃ z9 : GF, z9 = upG g j v r8 := ⟨_, rfl⟩
          have hI : Iv E s H locs (u.1, g13) := by rw [eg13]; exact hI
          refine lv_iinc (v := nI (v + 1)) (lv' := [(5, .int (nI (v + 1))), (4, .int (nI w)), (0, .ref (eA E 9)), (1, .ref (eA E (10 + 3 * b))), (2, .int (nI j)), (3, .int (nI tk))]) hx hy dX4_fillRow_64 hl (k := 0) rfl (nI_add (v) 1) (by decide) rfl (fun ls hl => ?_)
          refine lv_goto (tgt := 42) hx hy dX4_fillRow_67 (by decide) ?_
          exact ih_42 (v + 1) g13 (by omega) (by omega) (hG.step hO hp7 eg13).1 (hG.step hO hp7 eg13).2 _ _ _ hI (lv_sub hl [0, 1, 2, 3, 4, 5] rfl)
    exact lp5 (w + 1) 0 u.2 (Nat.zero_le _) (by omega) (fun v hv => absurd hv (Nat.not_lt_zero v)) (fun _ _ _ => rfl) _ _ _ hI (lv_sub hl [0, 1, 2, 3, 4, 5] rfl)
  · have h4 : (f j).1 = 0 := (nI_eq (a := (f j).1) (b := 0) (by omega) (by omega)).mp h4
    refine lv_aload_n hx hy dX4_fillRow_19 rfl (lv_at hl 1 rfl) ?_
    refine lv_iload_n hx hy dX4_fillRow_20 rfl (lv_at hl 3 rfl) ?_
    refine lv_aload_n hx hy dX4_fillRow_21 rfl (lv_at hl 2 rfl) ?_
    refine lv_iload_n hx hy dX4_fillRow_22 rfl (lv_at hl 3 rfl) ?_
    refine lv_iconst (v := nI 1) hx hy dX4_fillRow_23 (by decide) ?_
    refine zI hI (xV F hI hl (kX0_numberOf l E (u) (b := b) hb (nI j) (nI 1)) M_X4_26 (rX0 F hI (b := b) hb) rfl ⟨Nat.le_of_ble_eq_true rfl, Nat.le_of_ble_eq_true rfl⟩ ⟨Nat.zero_le _, Nat.zero_le _⟩ rfl (Nat.le_of_ble_eq_true rfl) dX4_fillRow_24) (fun r15 v16 H locs hI hp14 => ?_)
    rw [show nI j * nI 3 + nI 1 - nI 1 = nI (3 * j) from ix3 j 0, el_lt (by omega) (by decide)] at hp14
    subst hp14
    refine tI (hR.2 j hj).2.1 ?_
    refine lv_aload_n hx hy dX4_fillRow_27 rfl (lv_at hl 2 rfl) ?_
    refine lv_iload_n hx hy dX4_fillRow_28 rfl (lv_at hl 3 rfl) ?_
    refine lv_iconst (v := nI 2) hx hy dX4_fillRow_29 (by decide) ?_
    refine zI hI (xV F hI hl (kX0_numberOf l E (u) (b := b) hb (nI j) (nI 2)) M_X4_26 (rX0 F hI (b := b) hb) rfl ⟨Nat.le_of_ble_eq_true rfl, Nat.le_of_ble_eq_true rfl⟩ ⟨Nat.zero_le _, Nat.zero_le _⟩ rfl (Nat.le_of_ble_eq_true rfl) dX4_fillRow_30) (fun r18 v19 H locs hI hp17 => ?_)
    rw [show nI j * nI 3 + nI 2 - nI 1 = nI (3 * j + 1) from ix3 j 1, el_lt (by omega) (by decide)] at hp17
    subst hp17
    refine tI (hR.2 j hj).2.2.1 ?_
    refine lv_iload hx hy dX4_fillRow_33 (lv_at hl 0 rfl) ?_
    refine zV hI (xV F hI hl (kX4_fillSource l E (u) j ((f j).2.1) ((f j).2.2.1) w (by omega) (hok.2.1 (by omega)).1 (by have := (hok.2.1 (by omega)).2.2; omega) hw16) M_X4_30 (rX4 F hI) rfl ⟨Nat.le_of_ble_eq_true rfl, Nat.le_of_ble_eq_true rfl⟩ ⟨Nat.zero_le _, Nat.zero_le _⟩ rfl (Nat.le_of_ble_eq_true rfl) dX4_fillRow_35) (fun v22 H locs hI hp20 => ?_)
    exact rV hQ F (v := v22) hI dX4_fillRow_38 ⟨fun v hv t ht => by rw [hp20.1 v hv t ht, bt_0 hok (by omega)], hp20.2⟩
set_option maxHeartbeats 400000 in
set_option maxRecDepth 100000 in
theorem kX4_fill (l : Launch) (E : EV) (u : SS) {b n : Nat} {f : Nat → Ln} (hb : b < 7) (hR : RepL b u.1 n f) (h16 : n ≤ 16) (hok : ∀ j, j < n → LnOk j (f j)) (la : Int32) (k tk w : Nat) (hla : la = nI k - 1) (hk : k ≤ n) (htk : tk ≤ 1000) (hw : w = (tk + 64 - 1) / 64) : CT l yX4_fill cX4_fill 5 none (Rm 4 97) [.ref (eA E 9), .ref (eA E (10 + 3 * b)), .int (la), .int (nI tk)] E u (Q_v E (fun g => ∀ i, i < k → RowG g f i w) (fun (g : GF) => (u.1, g))) := by
  refine mstart RX4 (by decide +kernel) rfl (Nat.le_of_ble_eq_true rfl) ?_
  intro p e s m args below meth co ls Q hQ F hI hl
  have hx := F.1
  have hy := F.2.1
  have hl : lv_has ls 5 [(0, .ref (eA E 9)), (1, .ref (eA E (10 + 3 * b))), (2, .int (la)), (3, .int (nI tk))] := hl
  refine lv_iconst (v := nI 0) hx hy dX4_fill_0 (by decide) ?_
  refine lv_istore (lv' := [(4, .int (nI 0)), (0, .ref (eA E 9)), (1, .ref (eA E (10 + 3 * b))), (2, .int (la)), (3, .int (nI tk))]) hx hy dX4_fill_1 hl (by decide) rfl (fun ls hl => ?_)
  have lp1 : ∀ (fu : Nat) (i : Nat) (g : GF), (i ≤ k) → (k - i < fu) → (∀ a, a < i → RowG g f a w) →  ∀ (H : Heap) (locs : List Loc) (ls : Array Slot), Iv E s H locs ((u.1, g)) → lv_has ls 5 [(4, .int (nI i)), (0, .ref (eA E 9)), (1, .ref (eA E (10 + 3 * b))), (2, .int (la)), (3, .int (nI tk))] → W p l e (Rm 4 97) s m args below meth co H locs 0 0 Q (F0 m 3 ls []) := by
    intro fu
    induction fu with
    | zero => intro i g hi hf hG; exact absurd hf (Nat.not_lt_zero _)
    | succ fu ih =>
      intro i g hi hf hG H locs ls hI hl
      have ih_3 := ih
      refine lv_iload hx hy dX4_fill_3 (lv_at hl 0 rfl) ?_
      refine lv_iload_n hx hy dX4_fill_5 rfl (lv_at hl 3 rfl) ?_
      refine lv_icmp_gt (tgt := 30) hx hy dX4_fill_6 (by decide) (fun h2 => ?_) (fun h2 => ?_)
      · exact rV hQ F (v := g) hI dX4_fill_30 (fun a ha => hG a (by have := la_ge hla (by omega) (by omega) h2; omega))
      · have hik : i < k := la_lt hla (by omega) (by omega) h2
        refine lv_iload hx hy dX4_fill_9 (lv_at hl 0 rfl) ?_
        refine lv_bipush (v := nI 16) hx hy dX4_fill_11 (by decide) ?_
        refine lv_icmp_ge (tgt := 30) hx hy dX4_fill_13 (by decide) (fun h3 => ?_) (fun h3 => ?_)
        · have h3 : 16 ≤ i := (nI_leI (a := 16) (b := i) (by omega) (by omega)).mp h3
          exact absurd h3 (by omega)
        · have h3 : i < 16 := Nat.lt_of_not_le (fun q9 => h3 ((nI_leI (a := 16) (b := i) (by omega) (by omega)).mpr q9))
          refine lv_aload_n hx hy dX4_fill_16 rfl (lv_at hl 1 rfl) ?_
          refine lv_aload_n hx hy dX4_fill_17 rfl (lv_at hl 2 rfl) ?_
          refine lv_iload hx hy dX4_fill_18 (lv_at hl 0 rfl) ?_
          refine lv_iload_n hx hy dX4_fill_20 rfl (lv_at hl 4 rfl) ?_
          refine zV hI (xV F hI hl (kX4_fillRow l E ((u.1, g)) (b := b) (n := n) (f := f) hb hR h16 i tk w (by omega) (hok i (by omega)) htk hw hG) M_X4_16 (rX4 F hI) rfl ⟨Nat.le_of_ble_eq_true rfl, Nat.le_of_ble_eq_true rfl⟩ ⟨Nat.zero_le _, Nat.zero_le _⟩ rfl (Nat.le_of_ble_eq_true rfl) dX4_fill_21) (fun v6 H locs hI hp4 => ?_)
          refine lv_iinc (v := nI (i + 1)) (lv' := [(4, .int (nI (i + 1))), (0, .ref (eA E 9)), (1, .ref (eA E (10 + 3 * b))), (2, .int (la)), (3, .int (nI tk))]) hx hy dX4_fill_24 hl (k := 0) rfl (nI_add (i) 1) (by decide) rfl (fun ls hl => ?_)
          refine lv_goto (tgt := 3) hx hy dX4_fill_27 (by decide) ?_
          exact ih_3 (i + 1) v6 (by omega) (by omega) (fun a ha => by rcases Nat.lt_or_ge a i with q9 | q9; exact (hG a q9).keep hp4.2 (by omega); rw [show a = i from by omega]; exact hp4.1) _ _ _ hI (lv_sub hl [0, 1, 2, 3, 4] rfl)
  exact lp1 (k + 1) 0 u.2 (Nat.zero_le _) (by omega) (fun v hv => absurd hv (Nat.not_lt_zero v)) _ _ _ hI (lv_sub hl [0, 1, 2, 3, 4] rfl)
end
section
/-! how many bits are set: the JDK's way of counting them -/
theorem wb_tb (n : Nat) : (lN n).toBitVec = BitVec.ofNat 64 n := rfl
theorem wb_inj {a b : Int64} (h : a.toBitVec = b.toBitVec) : a = b := Int64.toBitVec_inj.mp h
theorem wb_tn {n : Nat} (h : n < 2 ^ 64) : (lN n).toBitVec.toNat = n := by rw [wb_tb, BitVec.toNat_ofNat, Nat.mod_eq_of_lt h]
theorem wb_of (x : Int64) : ∃ n, n < 2 ^ 64 ∧ x = lN n := ⟨x.toBitVec.toNat, x.toBitVec.isLt, wb_inj (by rw [wb_tb]; simp)⟩
theorem wb_of32 (x : Int32) : ∃ n, n < 2 ^ 32 ∧ x = nI n := ⟨x.toBitVec.toNat, x.toBitVec.isLt, Int32.toBitVec_inj.mp (by show _ = BitVec.ofNat 32 _; simp)⟩
theorem wb_cu : ∀ k, k < 64 → ((nI k).toInt64.toUInt64 &&& Int64.toUInt64 63) = UInt64.ofNat k := by decide +kernel
theorem wb_shr {n k : Nat} (hn : n < 2 ^ 64) (hk : k < 64) : ((lN n).toUInt64 >>> ((nI k).toInt64.toUInt64 &&& Int64.toUInt64 63)).toInt64 = lN (n / 2 ^ k) := by
  rw [wb_cu k hk]
  apply wb_inj
  apply BitVec.eq_of_toNat_eq
  show ((lN n).toUInt64 >>> UInt64.ofNat k).toNat = (BitVec.ofNat 64 _).toNat
  have h1 : (UInt64.ofNat k).toNat = k := by
    show (BitVec.ofNat 64 k).toNat = k
    rw [BitVec.toNat_ofNat, Nat.mod_eq_of_lt (by omega)]
  have h2 : (lN n).toUInt64.toNat = n := wb_tn hn
  rw [UInt64.toNat_shiftRight, h1, h2, Nat.mod_eq_of_lt hk, Nat.shiftRight_eq_div_pow, BitVec.toNat_ofNat, Nat.mod_eq_of_lt (Nat.lt_of_le_of_lt (Nat.div_le_self _ _) hn)]
theorem lN_and (a b : Nat) : lN a &&& lN b = lN (a &&& b) := by
  apply wb_inj
  apply BitVec.eq_of_getLsbD_eq
  intro i hi
  show ((BitVec.ofNat 64 a) &&& (BitVec.ofNat 64 b)).getLsbD i = (BitVec.ofNat 64 (a &&& b)).getLsbD i
  simp [hi]
theorem nI_and (a b : Nat) : nI a &&& nI b = nI (a &&& b) := by
  apply Int32.toBitVec_inj.mp
  apply BitVec.eq_of_getLsbD_eq
  intro i hi
  show ((BitVec.ofNat 32 a) &&& (BitVec.ofNat 32 b)).getLsbD i = (BitVec.ofNat 32 (a &&& b)).getLsbD i
  simp [hi]
theorem nI_or (a b : Nat) : nI a ||| nI b = nI (a ||| b) := by
  apply Int32.toBitVec_inj.mp
  apply BitVec.eq_of_getLsbD_eq
  intro i hi
  show ((BitVec.ofNat 32 a) ||| (BitVec.ofNat 32 b)).getLsbD i = (BitVec.ofNat 32 (a ||| b)).getLsbD i
  simp [hi]
/-- a mask of n equal bytes -/
def mm (v : Nat) : Nat → Nat
  | 0 => 0
  | n + 1 => 2 ^ 8 * mm v n + v
theorem tb2 (Z y j : Nat) (h : y < 2 ^ 8) : (2 ^ 8 * Z + y).testBit j = if j < 8 then y.testBit j else Z.testBit (j - 8) := Nat.testBit_two_pow_mul_add Z h j
theorem pick_s {y Z v M t : Nat} (hy : y < 2 ^ 8) (hv : v < 2 ^ 8) (ht : t ≤ 8) (hvs : v < 2 ^ (8 - t)) : ((2 ^ 8 * Z + y) / 2 ^ t) &&& (2 ^ 8 * M + v) = 2 ^ 8 * ((Z / 2 ^ t) &&& M) + ((y / 2 ^ t) &&& v) := by
  apply Nat.eq_of_testBit_eq
  intro i
  have hlt : (y / 2 ^ t) &&& v < 2 ^ 8 := Nat.lt_of_le_of_lt Nat.and_le_right hv
  rw [Nat.testBit_and, Nat.testBit_div_two_pow, tb2 _ _ _ hy, tb2 _ _ _ hv, tb2 _ _ _ hlt, Nat.testBit_and, Nat.testBit_div_two_pow, Nat.testBit_and, Nat.testBit_div_two_pow]
  by_cases h8 : i < 8
  · rw [if_pos h8, if_pos h8]
    by_cases h2 : i + t < 8
    · rw [if_pos h2]
    · have hz : v.testBit i = false := Nat.testBit_lt_two_pow (Nat.lt_of_lt_of_le hvs (Nat.pow_le_pow_right (by decide) (by omega)))
      rw [hz, Bool.and_false, Bool.and_false]
  · rw [if_neg h8, if_neg h8, if_neg (by omega)]
    congr 2
    omega
def g1 (y : Nat) : Nat := y - ((y / 2 ^ 1) &&& 85)
def g2 (y : Nat) : Nat := ((y / 2 ^ 0) &&& 51) + ((y / 2 ^ 2) &&& 51)
def a1 (n X : Nat) : Nat := X - ((X / 2 ^ 1) &&& mm 85 n)
def a2 (n X : Nat) : Nat := ((X / 2 ^ 0) &&& mm 51 n) + ((X / 2 ^ 2) &&& mm 51 n)
theorem g_tab : ∀ y, y < 256 → g1 y < 256 ∧ g2 (g1 y) / 16 ≤ 4 ∧ g2 (g1 y) % 16 ≤ 4 ∧ g2 (g1 y) < 256 ∧ g2 (g1 y) / 16 + g2 (g1 y) % 16 = fb_ct (fun t => y.testBit t) 8 := by decide +kernel
theorem a1_s (n Z : Nat) {y : Nat} (hy : y < 2 ^ 8) : a1 (n + 1) (2 ^ 8 * Z + y) = 2 ^ 8 * a1 n Z + g1 y := by
  unfold a1 g1
  show (2 ^ 8 * Z + y) - (((2 ^ 8 * Z + y) / 2 ^ 1) &&& (2 ^ 8 * mm 85 n + 85)) = _
  rw [pick_s hy (by decide) (by decide) (by decide)]
  have h1 : (Z / 2 ^ 1) &&& mm 85 n ≤ Z := Nat.le_trans Nat.and_le_left (Nat.div_le_self _ _)
  have h2 : (y / 2 ^ 1) &&& 85 ≤ y := Nat.le_trans Nat.and_le_left (Nat.div_le_self _ _)
  omega
theorem a2_s (n Z : Nat) {y : Nat} (hy : y < 2 ^ 8) : a2 (n + 1) (2 ^ 8 * Z + y) = 2 ^ 8 * a2 n Z + g2 y := by
  unfold a2 g2
  show (((2 ^ 8 * Z + y) / 2 ^ 0) &&& (2 ^ 8 * mm 51 n + 51)) + (((2 ^ 8 * Z + y) / 2 ^ 2) &&& (2 ^ 8 * mm 51 n + 51)) = _
  rw [pick_s hy (by decide) (by decide) (by decide), pick_s hy (by decide) (by decide) (by decide)]
  omega
theorem pick_n {c h Z M : Nat} (hc : c < 16) (hh : h < 16) : (2 ^ 8 * Z + (16 * h + c)) &&& (2 ^ 8 * M + 15) = 2 ^ 8 * (Z &&& M) + c := by
  have h1 := pick_s (y := 16 * h + c) (Z := Z) (v := 15) (M := M) (t := 0) (by omega) (by decide) (by decide) (by decide)
  rw [Nat.pow_zero, Nat.div_one, Nat.div_one, Nat.div_one] at h1
  rw [h1]
  have h2 : ∀ h, h < 16 → ∀ c, c < 16 → (16 * h + c) &&& 15 = c := by decide +kernel
  rw [h2 h hh c hc]
/-- bits of bytes -/
theorem ct_byte (Z : Nat) {y : Nat} (hy : y < 2 ^ 8) (n : Nat) : fb_ct (fun t => (2 ^ 8 * Z + y).testBit t) (8 + n) = fb_ct (fun t => y.testBit t) 8 + fb_ct (fun t => Z.testBit t) n := by
  rw [fb_ct_split]
  congr 1
  · exact fb_ct_cong fun k hk => by rw [tb2 _ _ _ hy, if_pos hk]
  · exact fb_ct_cong fun k hk => by rw [tb2 _ _ _ hy, if_neg (by omega)]; congr 1; omega
theorem byte_of (X : Nat) : ∃ Z y, y < 2 ^ 8 ∧ X = 2 ^ 8 * Z + y := ⟨X / 2 ^ 8, X % 2 ^ 8, Nat.mod_lt _ (by decide), (Nat.div_add_mod _ _).symm⟩
theorem ct_0 (n : Nat) : fb_ct (fun t => (0 : Nat).testBit t) n = 0 := fb_ct_zero.mpr fun k _ => Nat.zero_testBit k
def cP : Nat → List (Nat × Nat) → Nat
  | 0, _ => 0
  | _, [] => 0
  | n + 1, q :: l => 2 ^ 8 * cP n l + (16 * q.1 + q.2)
/-- four bytes -/
theorem bc4 {X : Nat} (hX : X < 2 ^ 32) {B C D E : Nat} (hB : B = a2 4 (a1 4 X)) (hC : C = (B + B / 16) &&& mm 15 4) (hD : D = C + C / 2 ^ 8) (hE : E = D + D / 2 ^ 16) : E &&& 63 = fb_ct (fun t => X.testBit t) 32 := by
  obtain ⟨X1, y0, k0, e0⟩ := byte_of X
  obtain ⟨X2, y1, k1, e1⟩ := byte_of X1
  obtain ⟨X3, y2, k2, e2⟩ := byte_of X2
  obtain ⟨X4, y3, k3, e3⟩ := byte_of X3
  have z4 : X4 = 0 := by omega
  obtain ⟨p0, q0, r0, s0, t0⟩ := g_tab y0 (by omega)
  obtain ⟨p1, q1, r1, s1, t1⟩ := g_tab y1 (by omega)
  obtain ⟨p2, q2, r2, s2, t2⟩ := g_tab y2 (by omega)
  obtain ⟨p3, q3, r3, s3, t3⟩ := g_tab y3 (by omega)
  have hct : fb_ct (fun t => X.testBit t) 32 = fb_ct (fun t => y0.testBit t) 8 + (fb_ct (fun t => y1.testBit t) 8 + (fb_ct (fun t => y2.testBit t) 8 + (fb_ct (fun t => y3.testBit t) 8 + 0))) := by
    rw [e0, ct_byte _ k0 24, e1, ct_byte _ k1 16, e2, ct_byte _ k2 8, e3, z4]
    have := ct_byte 0 k3 0
    rw [Nat.add_zero] at this
    rw [this]
    rfl
  rw [hct, ← t0, ← t1, ← t2, ← t3]
  have hB2 : B = 2 ^ 8 * (2 ^ 8 * (2 ^ 8 * (2 ^ 8 * 0 + g2 (g1 y3)) + g2 (g1 y2)) + g2 (g1 y1)) + g2 (g1 y0) := by
    rw [hB, e0, a1_s _ _ k0, a2_s _ _ p0, e1, a1_s _ _ k1, a2_s _ _ p1, e2, a1_s _ _ k2, a2_s _ _ p2, e3, a1_s _ _ k3, a2_s _ _ p3, z4]
    rfl
  generalize g2 (g1 y0) = w0 at *
  generalize g2 (g1 y1) = w1 at *
  generalize g2 (g1 y2) = w2 at *
  generalize g2 (g1 y3) = w3 at *
  obtain ⟨l0, m0, f0, f1⟩ : ∃ l h, l = w0 % 16 ∧ h = w0 / 16 := ⟨_, _, rfl, rfl⟩
  obtain ⟨l1, m1, f2, f3⟩ : ∃ l h, l = w1 % 16 ∧ h = w1 / 16 := ⟨_, _, rfl, rfl⟩
  obtain ⟨l2, m2, f4, f5⟩ : ∃ l h, l = w2 % 16 ∧ h = w2 / 16 := ⟨_, _, rfl, rfl⟩
  obtain ⟨l3, m3, f6, f7⟩ : ∃ l h, l = w3 % 16 ∧ h = w3 / 16 := ⟨_, _, rfl, rfl⟩
  have hB3 : B + B / 16 = 2 ^ 8 * (2 ^ 8 * (2 ^ 8 * (2 ^ 8 * 0 + (16 * m3 + (l3 + m3))) + (16 * (m2 + l3) + (l2 + m2))) + (16 * (m1 + l2) + (l1 + m1))) + (16 * (m0 + l1) + (l0 + m0)) := by omega
  have hC2 : C = 2 ^ 8 * (2 ^ 8 * (2 ^ 8 * (2 ^ 8 * 0 + (l3 + m3)) + (l2 + m2)) + (l1 + m1)) + (l0 + m0) := by
    rw [hC, hB3]
    show _ &&& (2 ^ 8 * (2 ^ 8 * (2 ^ 8 * (2 ^ 8 * 0 + 15) + 15) + 15) + 15) = _
    rw [pick_n (by omega) (by omega), pick_n (by omega) (by omega), pick_n (by omega) (by omega), pick_n (by omega) (by omega)]
    rfl
  clear hB hB2 hB3 hC hct e0 e1 e2 e3
  obtain ⟨c0, n0⟩ : ∃ c, c = l0 + m0 := ⟨_, rfl⟩
  obtain ⟨c1, n1⟩ : ∃ c, c = l1 + m1 := ⟨_, rfl⟩
  obtain ⟨c2, n2⟩ : ∃ c, c = l2 + m2 := ⟨_, rfl⟩
  obtain ⟨c3, n3⟩ : ∃ c, c = l3 + m3 := ⟨_, rfl⟩
  rw [← n0, ← n1, ← n2, ← n3] at hC2
  have b0 : c0 ≤ 8 := by omega
  have b1 : c1 ≤ 8 := by omega
  have b2 : c2 ≤ 8 := by omega
  have b3 : c3 ≤ 8 := by omega
  have hs : w0 / 16 + w0 % 16 + (w1 / 16 + w1 % 16 + (w2 / 16 + w2 % 16 + (w3 / 16 + w3 % 16 + 0))) = c0 + c1 + c2 + c3 := by omega
  rw [hs]
  have hD2 : D = 2 ^ 8 * (2 ^ 8 * (2 ^ 8 * c3 + (c2 + c3)) + (c1 + c2)) + (c0 + c1) := by clear hs; omega
  have hE2 : D / 2 ^ 16 = 2 ^ 8 * c3 + (c2 + c3) := by clear hs hD; omega
  rw [show (63 : Nat) = 2 ^ 6 - 1 from rfl, Nat.and_two_pow_sub_one_eq_mod, hE, hE2, hD2]
  clear hs hD hE hE2 hC2 hD2
  omega
/-- eight bytes -/
theorem bc8 {X : Nat} (hX : X < 2 ^ 64) {B C D E G : Nat} (hB : B = a2 8 (a1 8 X)) (hC : C = (B + B / 16) &&& mm 15 8) (hD : D = C + C / 2 ^ 8) (hE : E = D + D / 2 ^ 16) (hG : G = E + E / 2 ^ 32) : G &&& 127 = fb_ct (fun t => X.testBit t) 64 := by
  obtain ⟨X1, y0, k0, e0⟩ := byte_of X
  obtain ⟨X2, y1, k1, e1⟩ := byte_of X1
  obtain ⟨X3, y2, k2, e2⟩ := byte_of X2
  obtain ⟨X4, y3, k3, e3⟩ := byte_of X3
  obtain ⟨X5, y4, k4, e4⟩ := byte_of X4
  obtain ⟨X6, y5, k5, e5⟩ := byte_of X5
  obtain ⟨X7, y6, k6, e6⟩ := byte_of X6
  obtain ⟨X8, y7, k7, e7⟩ := byte_of X7
  have z8 : X8 = 0 := by omega
  obtain ⟨p0, q0, r0, s0, t0⟩ := g_tab y0 (by omega)
  obtain ⟨p1, q1, r1, s1, t1⟩ := g_tab y1 (by omega)
  obtain ⟨p2, q2, r2, s2, t2⟩ := g_tab y2 (by omega)
  obtain ⟨p3, q3, r3, s3, t3⟩ := g_tab y3 (by omega)
  obtain ⟨p4, q4, r4, s4, t4⟩ := g_tab y4 (by omega)
  obtain ⟨p5, q5, r5, s5, t5⟩ := g_tab y5 (by omega)
  obtain ⟨p6, q6, r6, s6, t6⟩ := g_tab y6 (by omega)
  obtain ⟨p7, q7, r7, s7, t7⟩ := g_tab y7 (by omega)
  have hct : fb_ct (fun t => X.testBit t) 64 = (fb_ct (fun t => y0.testBit t) 8 + (fb_ct (fun t => y1.testBit t) 8 + (fb_ct (fun t => y2.testBit t) 8 + (fb_ct (fun t => y3.testBit t) 8 + (fb_ct (fun t => y4.testBit t) 8 + (fb_ct (fun t => y5.testBit t) 8 + (fb_ct (fun t => y6.testBit t) 8 + (fb_ct (fun t => y7.testBit t) 8 + 0)))))))) := by
    rw [e0, ct_byte _ k0 56, e1, ct_byte _ k1 48, e2, ct_byte _ k2 40, e3, ct_byte _ k3 32, e4, ct_byte _ k4 24, e5, ct_byte _ k5 16, e6, ct_byte _ k6 8, e7, z8]
    have := ct_byte 0 k7 0
    rw [Nat.add_zero] at this
    rw [this]
    rfl
  rw [hct, ← t0, ← t1, ← t2, ← t3, ← t4, ← t5, ← t6, ← t7]
  have hB2 : B = (2 ^ 8 * (2 ^ 8 * (2 ^ 8 * (2 ^ 8 * (2 ^ 8 * (2 ^ 8 * (2 ^ 8 * (2 ^ 8 * 0 + g2 (g1 y7)) + g2 (g1 y6)) + g2 (g1 y5)) + g2 (g1 y4)) + g2 (g1 y3)) + g2 (g1 y2)) + g2 (g1 y1)) + g2 (g1 y0)) := by
    rw [hB, e0, a1_s _ _ k0, a2_s _ _ p0, e1, a1_s _ _ k1, a2_s _ _ p1, e2, a1_s _ _ k2, a2_s _ _ p2, e3, a1_s _ _ k3, a2_s _ _ p3, e4, a1_s _ _ k4, a2_s _ _ p4, e5, a1_s _ _ k5, a2_s _ _ p5, e6, a1_s _ _ k6, a2_s _ _ p6, e7, a1_s _ _ k7, a2_s _ _ p7, z8]
    rfl
  generalize g2 (g1 y0) = w0 at *
  generalize g2 (g1 y1) = w1 at *
  generalize g2 (g1 y2) = w2 at *
  generalize g2 (g1 y3) = w3 at *
  generalize g2 (g1 y4) = w4 at *
  generalize g2 (g1 y5) = w5 at *
  generalize g2 (g1 y6) = w6 at *
  generalize g2 (g1 y7) = w7 at *
  obtain ⟨l0, m0, f0, h0⟩ : ∃ l h, l = w0 % 16 ∧ h = w0 / 16 := ⟨_, _, rfl, rfl⟩
  obtain ⟨l1, m1, f1, h1⟩ : ∃ l h, l = w1 % 16 ∧ h = w1 / 16 := ⟨_, _, rfl, rfl⟩
  obtain ⟨l2, m2, f2, h2⟩ : ∃ l h, l = w2 % 16 ∧ h = w2 / 16 := ⟨_, _, rfl, rfl⟩
  obtain ⟨l3, m3, f3, h3⟩ : ∃ l h, l = w3 % 16 ∧ h = w3 / 16 := ⟨_, _, rfl, rfl⟩
  obtain ⟨l4, m4, f4, h4⟩ : ∃ l h, l = w4 % 16 ∧ h = w4 / 16 := ⟨_, _, rfl, rfl⟩
  obtain ⟨l5, m5, f5, h5⟩ : ∃ l h, l = w5 % 16 ∧ h = w5 / 16 := ⟨_, _, rfl, rfl⟩
  obtain ⟨l6, m6, f6, h6⟩ : ∃ l h, l = w6 % 16 ∧ h = w6 / 16 := ⟨_, _, rfl, rfl⟩
  obtain ⟨l7, m7, f7, h7⟩ : ∃ l h, l = w7 % 16 ∧ h = w7 / 16 := ⟨_, _, rfl, rfl⟩
  clear hct e0 k0 p0 s0 t0 e1 k1 p1 s1 t1 e2 k2 p2 s2 t2 e3 k3 p3 s3 t3 e4 k4 p4 s4 t4 e5 k5 p5 s5 t5 e6 k6 p6 s6 t6 e7 k7 p7 s7 t7
  have v0 : w0 = 16 * m0 + l0 := by omega
  have v1 : w1 = 16 * m1 + l1 := by omega
  have v2 : w2 = 16 * m2 + l2 := by omega
  have v3 : w3 = 16 * m3 + l3 := by omega
  have v4 : w4 = 16 * m4 + l4 := by omega
  have v5 : w5 = 16 * m5 + l5 := by omega
  have v6 : w6 = 16 * m6 + l6 := by omega
  have v7 : w7 = 16 * m7 + l7 := by omega
  have hB3 : B + B / 16 = (2 ^ 8 * (2 ^ 8 * (2 ^ 8 * (2 ^ 8 * (2 ^ 8 * (2 ^ 8 * (2 ^ 8 * (2 ^ 8 * 0 + (16 * m7 + (l7 + m7))) + (16 * (m6 + l7) + (l6 + m6))) + (16 * (m5 + l6) + (l5 + m5))) + (16 * (m4 + l5) + (l4 + m4))) + (16 * (m3 + l4) + (l3 + m3))) + (16 * (m2 + l3) + (l2 + m2))) + (16 * (m1 + l2) + (l1 + m1))) + (16 * (m0 + l1) + (l0 + m0))) := by
    clear hB hC hD hE hG hX z8
    omega
  have hC2 : C = (2 ^ 8 * (2 ^ 8 * (2 ^ 8 * (2 ^ 8 * (2 ^ 8 * (2 ^ 8 * (2 ^ 8 * (2 ^ 8 * 0 + (l7 + m7)) + (l6 + m6)) + (l5 + m5)) + (l4 + m4)) + (l3 + m3)) + (l2 + m2)) + (l1 + m1)) + (l0 + m0)) := by
    rw [hC, hB3]
    show _ &&& (2 ^ 8 * (2 ^ 8 * (2 ^ 8 * (2 ^ 8 * (2 ^ 8 * (2 ^ 8 * (2 ^ 8 * (2 ^ 8 * 0 + 15) + 15) + 15) + 15) + 15) + 15) + 15) + 15) = _
    rw [pick_n (by omega) (by omega), pick_n (by omega) (by omega), pick_n (by omega) (by omega), pick_n (by omega) (by omega), pick_n (by omega) (by omega), pick_n (by omega) (by omega), pick_n (by omega) (by omega), pick_n (by omega) (by omega)]
    rfl
  obtain ⟨c0, n0⟩ : ∃ c, c = l0 + m0 := ⟨_, rfl⟩
  obtain ⟨c1, n1⟩ : ∃ c, c = l1 + m1 := ⟨_, rfl⟩
  obtain ⟨c2, n2⟩ : ∃ c, c = l2 + m2 := ⟨_, rfl⟩
  obtain ⟨c3, n3⟩ : ∃ c, c = l3 + m3 := ⟨_, rfl⟩
  obtain ⟨c4, n4⟩ : ∃ c, c = l4 + m4 := ⟨_, rfl⟩
  obtain ⟨c5, n5⟩ : ∃ c, c = l5 + m5 := ⟨_, rfl⟩
  obtain ⟨c6, n6⟩ : ∃ c, c = l6 + m6 := ⟨_, rfl⟩
  obtain ⟨c7, n7⟩ : ∃ c, c = l7 + m7 := ⟨_, rfl⟩
  rw [← n0, ← n1, ← n2, ← n3, ← n4, ← n5, ← n6, ← n7] at hC2
  have b0 : c0 ≤ 8 := by omega
  have b1 : c1 ≤ 8 := by omega
  have b2 : c2 ≤ 8 := by omega
  have b3 : c3 ≤ 8 := by omega
  have b4 : c4 ≤ 8 := by omega
  have b5 : c5 ≤ 8 := by omega
  have b6 : c6 ≤ 8 := by omega
  have b7 : c7 ≤ 8 := by omega
  have hs : (w0 / 16 + w0 % 16 + (w1 / 16 + w1 % 16 + (w2 / 16 + w2 % 16 + (w3 / 16 + w3 % 16 + (w4 / 16 + w4 % 16 + (w5 / 16 + w5 % 16 + (w6 / 16 + w6 % 16 + (w7 / 16 + w7 % 16 + 0)))))))) = c0 + c1 + c2 + c3 + c4 + c5 + c6 + c7 := by
    rw [n0, n1, n2, n3, n4, n5, n6, n7]
    clear hB hC hD hE hG hX hB2 hB3 hC2
    omega
  rw [hs]
  clear hs hB hB2 hB3 hC hX z8 v0 n0 f0 h0 q0 r0 v1 n1 f1 h1 q1 r1 v2 n2 f2 h2 q2 r2 v3 n3 f3 h3 q3 r3 v4 n4 f4 h4 q4 r4 v5 n5 f5 h5 q5 r5 v6 n6 f6 h6 q6 r6 v7 n7 f7 h7 q7 r7
  have hC3 : C / 2 ^ 8 = (2 ^ 8 * (2 ^ 8 * (2 ^ 8 * (2 ^ 8 * (2 ^ 8 * (2 ^ 8 * (2 ^ 8 * 0 + (c7)) + (c6)) + (c5)) + (c4)) + (c3)) + (c2)) + (c1)) := by omega
  have hD2 : D = (2 ^ 8 * (2 ^ 8 * (2 ^ 8 * (2 ^ 8 * (2 ^ 8 * (2 ^ 8 * (2 ^ 8 * (2 ^ 8 * 0 + (c7)) + (c6 + c7)) + (c5 + c6)) + (c4 + c5)) + (c3 + c4)) + (c2 + c3)) + (c1 + c2)) + (c0 + c1)) := by rw [hD, hC3, hC2]; clear hD hC3 hC2 hE hG; omega
  clear hD hC3 hC2
  have hD3 : D / 2 ^ 16 = (2 ^ 8 * (2 ^ 8 * (2 ^ 8 * (2 ^ 8 * (2 ^ 8 * (2 ^ 8 * 0 + (c7)) + (c6 + c7)) + (c5 + c6)) + (c4 + c5)) + (c3 + c4)) + (c2 + c3)) := by clear hE hG; omega
  have hE2 : E = (2 ^ 8 * (2 ^ 8 * (2 ^ 8 * (2 ^ 8 * (2 ^ 8 * (2 ^ 8 * (2 ^ 8 * (2 ^ 8 * 0 + (c7)) + (c6 + c7)) + (c5 + c6 + c7)) + (c4 + c5 + c6 + c7)) + (c3 + c4 + c5 + c6)) + (c2 + c3 + c4 + c5)) + (c1 + c2 + c3 + c4)) + (c0 + c1 + c2 + c3)) := by rw [hE, hD3, hD2]; clear hE hD3 hD2 hG; omega
  clear hE hD3 hD2
  have hE3 : E / 2 ^ 32 = (2 ^ 8 * (2 ^ 8 * (2 ^ 8 * (2 ^ 8 * 0 + (c7)) + (c6 + c7)) + (c5 + c6 + c7)) + (c4 + c5 + c6 + c7)) := by clear hG; omega
  rw [show (127 : Nat) = 2 ^ 7 - 1 from rfl, Nat.and_two_pow_sub_one_eq_mod, hG, hE3, hE2]
  clear hG hE3 hE2
  omega
def popc (x : Int64) : Nat := fb_ct (fun t => lb x t) 64
theorem lb_lN {X : Nat} (t : Nat) (ht : t < 64) : lb (lN X) t = X.testBit t := by
  show (BitVec.ofNat 64 X).getLsbD t = _
  rw [BitVec.getLsbD_ofNat]
  simp [ht]
end
section
set_option maxHeartbeats 400000 in
set_option maxRecDepth 100000 in
theorem kJ13_bitCount_95d88 (l : Launch) (E : EV) (u : SS) (x : Int64) : CT l yJ13_bitCount_95d88 cJ13_bitCount_95d88 2 (some .int) (Rm 0 0) [.long (x)] E u (Q_i E (fun r _ => r = nI (popc x)) (fun (_ : Unit) => u)) := by
  refine mstartF RJ13 (by decide +kernel) rfl (Nat.le_of_ble_eq_true rfl) ?_
  intro p e s m args below meth co ls Q hQ F hI hl
  have hx := F.1
  have hy := F.2.1
  have hl : lv_has ls 2 [(0, .long (x))] := hl
  obtain ⟨X, hX, ex⟩ := wb_of x
  subst ex
  have hl : lv_has ls 2 [(0, .long (lN X))] := hl
  refine lv_lload_n hx hy dJ13_bitCount_95d88_0 rfl (lv_at hl 0 rfl) ?_
  refine lv_lload_n hx hy dJ13_bitCount_95d88_1 rfl (lv_at hl 0 rfl) ?_
  refine lv_iconst (v := nI 1) hx hy dJ13_bitCount_95d88_2 (by decide) ?_
  refine lv_lushr (v := (Int64.toUInt64 (lN X) >>> ((Int32.toInt64 (nI 1)).toUInt64 &&& Int64.toUInt64 63)).toInt64) hx hy dJ13_bitCount_95d88_3 rfl ?_
  refine tL (wb_shr (n := X) (k := 1) (by omega) (by decide)) ?_
  refine zcl F K_J13_314 dJ13_bitCount_95d88_4 ?_
  refine tL (show _ = lN 6148914691236517205 from rfl) ?_
  refine lv_land hx hy dJ13_bitCount_95d88_7 ?_
  refine tL (lN_and (X / 2 ^ 1) (6148914691236517205)) ?_
  refine lv_lsub hx hy dJ13_bitCount_95d88_8 ?_
  refine tL (lN_sub (a := X) (b := (X / 2 ^ 1) &&& 6148914691236517205) (Nat.le_trans Nat.and_le_left (Nat.div_le_self _ _))) ?_
  obtain ⟨A1, eA1⟩ : ∃ z9 : Nat, z9 = X - ((X / 2 ^ 1) &&& 6148914691236517205) := ⟨_, rfl⟩
  refine tL (congrArg lN eA1.symm) ?_
  have bA1 : A1 < 2 ^ 64 := by rw [eA1]; exact Nat.lt_of_le_of_lt (Nat.sub_le _ _) hX
  refine lv_lstore_n (lv' := [(0, .long (lN A1))]) hx hy dJ13_bitCount_95d88_9 rfl hl (by decide) rfl (fun ls hl => ?_)
  refine lv_lload_n hx hy dJ13_bitCount_95d88_10 rfl (lv_at hl 0 rfl) ?_
  refine zcl F K_J13_316 dJ13_bitCount_95d88_11 ?_
  refine tL (show _ = lN 3689348814741910323 from rfl) ?_
  refine lv_land hx hy dJ13_bitCount_95d88_14 ?_
  refine tL (lN_and (A1) (3689348814741910323)) ?_
  refine lv_lload_n hx hy dJ13_bitCount_95d88_15 rfl (lv_at hl 0 rfl) ?_
  refine lv_iconst (v := nI 2) hx hy dJ13_bitCount_95d88_16 (by decide) ?_
  refine lv_lushr (v := (Int64.toUInt64 (lN A1) >>> ((Int32.toInt64 (nI 2)).toUInt64 &&& Int64.toUInt64 63)).toInt64) hx hy dJ13_bitCount_95d88_17 rfl ?_
  refine tL (wb_shr (n := A1) (k := 2) (by omega) (by decide)) ?_
  refine zcl F K_J13_316 dJ13_bitCount_95d88_18 ?_
  refine tL (show _ = lN 3689348814741910323 from rfl) ?_
  refine lv_land hx hy dJ13_bitCount_95d88_21 ?_
  refine tL (lN_and (A1 / 2 ^ 2) (3689348814741910323)) ?_
  refine lv_ladd hx hy dJ13_bitCount_95d88_22 ?_
  refine tL (lN_add (A1 &&& 3689348814741910323) ((A1 / 2 ^ 2) &&& 3689348814741910323)) ?_
  obtain ⟨A2, eA2⟩ : ∃ z9 : Nat, z9 = (A1 &&& 3689348814741910323) + ((A1 / 2 ^ 2) &&& 3689348814741910323) := ⟨_, rfl⟩
  refine tL (congrArg lN eA2.symm) ?_
  have bA2 : A2 < 2 ^ 64 := by rw [eA2]; exact Nat.lt_of_le_of_lt (Nat.add_le_add (Nat.and_le_right (m := 3689348814741910323)) (Nat.and_le_right (m := 3689348814741910323))) (by decide)
  refine lv_lstore_n (lv' := [(0, .long (lN A2))]) hx hy dJ13_bitCount_95d88_23 rfl hl (by decide) rfl (fun ls hl => ?_)
  refine lv_lload_n hx hy dJ13_bitCount_95d88_24 rfl (lv_at hl 0 rfl) ?_
  refine lv_lload_n hx hy dJ13_bitCount_95d88_25 rfl (lv_at hl 0 rfl) ?_
  refine lv_iconst (v := nI 4) hx hy dJ13_bitCount_95d88_26 (by decide) ?_
  refine lv_lushr (v := (Int64.toUInt64 (lN A2) >>> ((Int32.toInt64 (nI 4)).toUInt64 &&& Int64.toUInt64 63)).toInt64) hx hy dJ13_bitCount_95d88_27 rfl ?_
  refine tL (wb_shr (n := A2) (k := 4) (by omega) (by decide)) ?_
  refine lv_ladd hx hy dJ13_bitCount_95d88_28 ?_
  refine tL (lN_add (A2) (A2 / 2 ^ 4)) ?_
  refine zcl F K_J13_318 dJ13_bitCount_95d88_29 ?_
  refine tL (show _ = lN 1085102592571150095 from rfl) ?_
  refine lv_land hx hy dJ13_bitCount_95d88_32 ?_
  refine tL (lN_and (A2 + A2 / 2 ^ 4) (1085102592571150095)) ?_
  obtain ⟨A3, eA3⟩ : ∃ z9 : Nat, z9 = (A2 + A2 / 2 ^ 4) &&& 1085102592571150095 := ⟨_, rfl⟩
  refine tL (congrArg lN eA3.symm) ?_
  have bA3 : A3 ≤ 1085102592571150095 := by rw [eA3]; exact Nat.and_le_right
  refine lv_lstore_n (lv' := [(0, .long (lN A3))]) hx hy dJ13_bitCount_95d88_33 rfl hl (by decide) rfl (fun ls hl => ?_)
  refine lv_lload_n hx hy dJ13_bitCount_95d88_34 rfl (lv_at hl 0 rfl) ?_
  refine lv_lload_n hx hy dJ13_bitCount_95d88_35 rfl (lv_at hl 0 rfl) ?_
  refine lv_bipush (v := nI 8) hx hy dJ13_bitCount_95d88_36 (by decide) ?_
  refine lv_lushr (v := (Int64.toUInt64 (lN A3) >>> ((Int32.toInt64 (nI 8)).toUInt64 &&& Int64.toUInt64 63)).toInt64) hx hy dJ13_bitCount_95d88_38 rfl ?_
  refine tL (wb_shr (n := A3) (k := 8) (by omega) (by decide)) ?_
  refine lv_ladd hx hy dJ13_bitCount_95d88_39 ?_
  refine tL (lN_add (A3) (A3 / 2 ^ 8)) ?_
  obtain ⟨A4, eA4⟩ : ∃ z9 : Nat, z9 = A3 + A3 / 2 ^ 8 := ⟨_, rfl⟩
  refine tL (congrArg lN eA4.symm) ?_
  refine lv_lstore_n (lv' := [(0, .long (lN A4))]) hx hy dJ13_bitCount_95d88_40 rfl hl (by decide) rfl (fun ls hl => ?_)
  refine lv_lload_n hx hy dJ13_bitCount_95d88_41 rfl (lv_at hl 0 rfl) ?_
  refine lv_lload_n hx hy dJ13_bitCount_95d88_42 rfl (lv_at hl 0 rfl) ?_
  refine lv_bipush (v := nI 16) hx hy dJ13_bitCount_95d88_43 (by decide) ?_
  refine lv_lushr (v := (Int64.toUInt64 (lN A4) >>> ((Int32.toInt64 (nI 16)).toUInt64 &&& Int64.toUInt64 63)).toInt64) hx hy dJ13_bitCount_95d88_45 rfl ?_
  refine tL (wb_shr (n := A4) (k := 16) (by omega) (by decide)) ?_
  refine lv_ladd hx hy dJ13_bitCount_95d88_46 ?_
  refine tL (lN_add (A4) (A4 / 2 ^ 16)) ?_
  obtain ⟨A5, eA5⟩ : ∃ z9 : Nat, z9 = A4 + A4 / 2 ^ 16 := ⟨_, rfl⟩
  refine tL (congrArg lN eA5.symm) ?_
  refine lv_lstore_n (lv' := [(0, .long (lN A5))]) hx hy dJ13_bitCount_95d88_47 rfl hl (by decide) rfl (fun ls hl => ?_)
  refine lv_lload_n hx hy dJ13_bitCount_95d88_48 rfl (lv_at hl 0 rfl) ?_
  refine lv_lload_n hx hy dJ13_bitCount_95d88_49 rfl (lv_at hl 0 rfl) ?_
  refine lv_bipush (v := nI 32) hx hy dJ13_bitCount_95d88_50 (by decide) ?_
  refine lv_lushr (v := (Int64.toUInt64 (lN A5) >>> ((Int32.toInt64 (nI 32)).toUInt64 &&& Int64.toUInt64 63)).toInt64) hx hy dJ13_bitCount_95d88_52 rfl ?_
  refine tL (wb_shr (n := A5) (k := 32) (by omega) (by decide)) ?_
  refine lv_ladd hx hy dJ13_bitCount_95d88_53 ?_
  refine tL (lN_add (A5) (A5 / 2 ^ 32)) ?_
  obtain ⟨A6, eA6⟩ : ∃ z9 : Nat, z9 = A5 + A5 / 2 ^ 32 := ⟨_, rfl⟩
  refine tL (congrArg lN eA6.symm) ?_
  refine lv_lstore_n (lv' := [(0, .long (lN A6))]) hx hy dJ13_bitCount_95d88_54 rfl hl (by decide) rfl (fun ls hl => ?_)
  refine lv_lload_n hx hy dJ13_bitCount_95d88_55 rfl (lv_at hl 0 rfl) ?_
  refine lv_l2i (v := nI A6) hx hy dJ13_bitCount_95d88_56 (lN_i (A6)) ?_
  refine lv_bipush (v := nI 127) hx hy dJ13_bitCount_95d88_57 (by decide) ?_
  refine lv_iand hx hy dJ13_bitCount_95d88_59 ?_
  refine tI (nI_and (A6) (127)) ?_
  exact rI hQ F (v := ()) hI dJ13_bitCount_95d88_60 (by rw [bc8 (X := X) hX (B := A2) (C := A3) (D := A4) (E := A5) (G := A6) (by rw [eA2, a2, eA1, Nat.pow_zero, Nat.div_one]; rfl) (by rw [eA3]; rfl) (by rw [eA4]) (by rw [eA5]) (by rw [eA6])]; exact congrArg nI (fb_ct_cong fun t ht => (lb_lN t ht).symm))
set_option maxHeartbeats 400000 in
set_option maxRecDepth 100000 in
theorem kJ6_bitCount_0f7a4 (l : Launch) (E : EV) (u : SS) (X : Nat) (hX : X < 2 ^ 32) : CT l yJ6_bitCount_0f7a4 cJ6_bitCount_0f7a4 1 (some .int) (Rm 0 0) [.int (nI X)] E u (Q_i E (fun r _ => r = nI (fb_ct (fun t => X.testBit t) 32)) (fun (_ : Unit) => u)) := by
  refine mstartF RJ6 (by decide +kernel) rfl (Nat.le_of_ble_eq_true rfl) ?_
  intro p e s m args below meth co ls Q hQ F hI hl
  have hx := F.1
  have hy := F.2.1
  have hl : lv_has ls 1 [(0, .int (nI X))] := hl
  refine lv_iload_n hx hy dJ6_bitCount_0f7a4_0 rfl (lv_at hl 0 rfl) ?_
  refine lv_iload_n hx hy dJ6_bitCount_0f7a4_1 rfl (lv_at hl 0 rfl) ?_
  refine lv_iconst (v := nI 1) hx hy dJ6_bitCount_0f7a4_2 (by decide) ?_
  refine lv_iushr (v := nI (X / 2 ^ 1)) hx hy dJ6_bitCount_0f7a4_3 (pk_ushrN (n := X) (by omega) (nI 1) 1 (by decide)) ?_
  refine lv_ldcw hx hy F.2.2.2.1 (F.2.2.2.2.1 _ K_J6_265) dJ6_bitCount_0f7a4_4 ?_
  refine tI (show _ = nI 1431655765 from rfl) ?_
  refine lv_iand hx hy dJ6_bitCount_0f7a4_7 ?_
  refine tI (nI_and (X / 2 ^ 1) (1431655765)) ?_
  refine lv_isub hx hy dJ6_bitCount_0f7a4_8 ?_
  refine tI (pk_sub (a := X) (b := (X / 2 ^ 1) &&& 1431655765) (Nat.le_trans Nat.and_le_left (Nat.div_le_self _ _))) ?_
  obtain ⟨A1, eA1⟩ : ∃ z9 : Nat, z9 = X - ((X / 2 ^ 1) &&& 1431655765) := ⟨_, rfl⟩
  refine tI (congrArg nI eA1.symm) ?_
  have bA1 : A1 < 2 ^ 32 := by rw [eA1]; exact Nat.lt_of_le_of_lt (Nat.sub_le _ _) hX
  refine lv_istore_n (lv' := [(0, .int (nI A1))]) hx hy dJ6_bitCount_0f7a4_9 rfl hl (by decide) rfl (fun ls hl => ?_)
  refine lv_iload_n hx hy dJ6_bitCount_0f7a4_10 rfl (lv_at hl 0 rfl) ?_
  refine lv_ldcw hx hy F.2.2.2.1 (F.2.2.2.2.1 _ K_J6_266) dJ6_bitCount_0f7a4_11 ?_
  refine tI (show _ = nI 858993459 from rfl) ?_
  refine lv_iand hx hy dJ6_bitCount_0f7a4_14 ?_
  refine tI (nI_and (A1) (858993459)) ?_
  refine lv_iload_n hx hy dJ6_bitCount_0f7a4_15 rfl (lv_at hl 0 rfl) ?_
  refine lv_iconst (v := nI 2) hx hy dJ6_bitCount_0f7a4_16 (by decide) ?_
  refine lv_iushr (v := nI (A1 / 2 ^ 2)) hx hy dJ6_bitCount_0f7a4_17 (pk_ushrN (n := A1) (by omega) (nI 2) 2 (by decide)) ?_
  refine lv_ldcw hx hy F.2.2.2.1 (F.2.2.2.2.1 _ K_J6_266) dJ6_bitCount_0f7a4_18 ?_
  refine tI (show _ = nI 858993459 from rfl) ?_
  refine lv_iand hx hy dJ6_bitCount_0f7a4_21 ?_
  refine tI (nI_and (A1 / 2 ^ 2) (858993459)) ?_
  refine lv_iadd hx hy dJ6_bitCount_0f7a4_22 ?_
  refine tI (nI_add (A1 &&& 858993459) ((A1 / 2 ^ 2) &&& 858993459)) ?_
  obtain ⟨A2, eA2⟩ : ∃ z9 : Nat, z9 = (A1 &&& 858993459) + ((A1 / 2 ^ 2) &&& 858993459) := ⟨_, rfl⟩
  refine tI (congrArg nI eA2.symm) ?_
  have bA2 : A2 < 2 ^ 32 := by rw [eA2]; exact Nat.lt_of_le_of_lt (Nat.add_le_add (Nat.and_le_right (m := 858993459)) (Nat.and_le_right (m := 858993459))) (by decide)
  refine lv_istore_n (lv' := [(0, .int (nI A2))]) hx hy dJ6_bitCount_0f7a4_23 rfl hl (by decide) rfl (fun ls hl => ?_)
  refine lv_iload_n hx hy dJ6_bitCount_0f7a4_24 rfl (lv_at hl 0 rfl) ?_
  refine lv_iload_n hx hy dJ6_bitCount_0f7a4_25 rfl (lv_at hl 0 rfl) ?_
  refine lv_iconst (v := nI 4) hx hy dJ6_bitCount_0f7a4_26 (by decide) ?_
  refine lv_iushr (v := nI (A2 / 2 ^ 4)) hx hy dJ6_bitCount_0f7a4_27 (pk_ushrN (n := A2) (by omega) (nI 4) 4 (by decide)) ?_
  refine lv_iadd hx hy dJ6_bitCount_0f7a4_28 ?_
  refine tI (nI_add (A2) (A2 / 2 ^ 4)) ?_
  refine lv_ldcw hx hy F.2.2.2.1 (F.2.2.2.2.1 _ K_J6_267) dJ6_bitCount_0f7a4_29 ?_
  refine tI (show _ = nI 252645135 from rfl) ?_
  refine lv_iand hx hy dJ6_bitCount_0f7a4_32 ?_
  refine tI (nI_and (A2 + A2 / 2 ^ 4) (252645135)) ?_
  obtain ⟨A3, eA3⟩ : ∃ z9 : Nat, z9 = (A2 + A2 / 2 ^ 4) &&& 252645135 := ⟨_, rfl⟩
  refine tI (congrArg nI eA3.symm) ?_
  have bA3 : A3 ≤ 252645135 := by rw [eA3]; exact Nat.and_le_right
  refine lv_istore_n (lv' := [(0, .int (nI A3))]) hx hy dJ6_bitCount_0f7a4_33 rfl hl (by decide) rfl (fun ls hl => ?_)
  refine lv_iload_n hx hy dJ6_bitCount_0f7a4_34 rfl (lv_at hl 0 rfl) ?_
  refine lv_iload_n hx hy dJ6_bitCount_0f7a4_35 rfl (lv_at hl 0 rfl) ?_
  refine lv_bipush (v := nI 8) hx hy dJ6_bitCount_0f7a4_36 (by decide) ?_
  refine lv_iushr (v := nI (A3 / 2 ^ 8)) hx hy dJ6_bitCount_0f7a4_38 (pk_ushrN (n := A3) (by omega) (nI 8) 8 (by decide)) ?_
  refine lv_iadd hx hy dJ6_bitCount_0f7a4_39 ?_
  refine tI (nI_add (A3) (A3 / 2 ^ 8)) ?_
  obtain ⟨A4, eA4⟩ : ∃ z9 : Nat, z9 = A3 + A3 / 2 ^ 8 := ⟨_, rfl⟩
  refine tI (congrArg nI eA4.symm) ?_
  refine lv_istore_n (lv' := [(0, .int (nI A4))]) hx hy dJ6_bitCount_0f7a4_40 rfl hl (by decide) rfl (fun ls hl => ?_)
  refine lv_iload_n hx hy dJ6_bitCount_0f7a4_41 rfl (lv_at hl 0 rfl) ?_
  refine lv_iload_n hx hy dJ6_bitCount_0f7a4_42 rfl (lv_at hl 0 rfl) ?_
  refine lv_bipush (v := nI 16) hx hy dJ6_bitCount_0f7a4_43 (by decide) ?_
  refine lv_iushr (v := nI (A4 / 2 ^ 16)) hx hy dJ6_bitCount_0f7a4_45 (pk_ushrN (n := A4) (by omega) (nI 16) 16 (by decide)) ?_
  refine lv_iadd hx hy dJ6_bitCount_0f7a4_46 ?_
  refine tI (nI_add (A4) (A4 / 2 ^ 16)) ?_
  obtain ⟨A5, eA5⟩ : ∃ z9 : Nat, z9 = A4 + A4 / 2 ^ 16 := ⟨_, rfl⟩
  refine tI (congrArg nI eA5.symm) ?_
  refine lv_istore_n (lv' := [(0, .int (nI A5))]) hx hy dJ6_bitCount_0f7a4_47 rfl hl (by decide) rfl (fun ls hl => ?_)
  refine lv_iload_n hx hy dJ6_bitCount_0f7a4_48 rfl (lv_at hl 0 rfl) ?_
  refine lv_bipush (v := nI 63) hx hy dJ6_bitCount_0f7a4_49 (by decide) ?_
  refine lv_iand hx hy dJ6_bitCount_0f7a4_51 ?_
  refine tI (nI_and (A5) (63)) ?_
  exact rI hQ F (v := ()) hI dJ6_bitCount_0f7a4_52 (by rw [bc4 (X := X) (by omega) (B := A2) (C := A3) (D := A4) (E := A5) (by rw [eA2, a2, eA1, Nat.pow_zero, Nat.div_one]; rfl) (by rw [eA3]; rfl) (by rw [eA4]) (by rw [eA5])])
end
section
def bN (b : Bool) : Nat := if b then 1 else 0
/-- bit of a row at a tick -/
def gb (g : GF) (i t : Nat) : Bool := lb (g i (t / 64)) (t % 64)
theorem rowG_gb {g : GF} {f : Nat → Ln} {j w t : Nat} (h : RowG g f j w) (ht : t < 64 * w) : gb g j t = bt f j t := by
  unfold gb
  rw [h (t / 64) (by omega) (t % 64) (by omega), Nat.div_add_mod]
theorem bitAt_eq (x : Int64) {k : Nat} (hk : k < 64) : Int64.toInt32 ((Int64.toUInt64 x >>> ((Int32.toInt64 (nI k)).toUInt64 &&& Int64.toUInt64 63)).toInt64) &&& nI 1 = nI (bN (lb x k)) := by
  have h := lb_ushr x (t := 0) hk
  generalize (Int64.toUInt64 x >>> ((Int32.toInt64 (nI k)).toUInt64 &&& Int64.toUInt64 63)).toInt64 = y at h ⊢
  rw [Nat.add_zero] at h
  rw [← h]
  apply Int32.toBitVec_inj.mp
  apply BitVec.eq_of_getLsbD_eq
  intro i hi
  have e1 : (Int64.toInt32 y &&& nI 1).toBitVec.getLsbD i = (decide (i < 32) && y.toBitVec.getLsbD i && (BitVec.ofNat 32 1).getLsbD i) := by
    show ((y.toBitVec.signExtend 32) &&& BitVec.ofNat 32 1).getLsbD i = _
    rw [BitVec.getLsbD_and, BitVec.getLsbD_signExtend]
    simp [hi, show i < 64 from by omega]
  rw [e1, decide_eq_true hi, Bool.true_and]
  have e2 : (BitVec.ofNat 32 1).getLsbD i = decide (i = 0) := by
    have : ∀ i, i < 32 → (BitVec.ofNat 32 1).getLsbD i = decide (i = 0) := by decide
    exact this i hi
  rw [e2]
  by_cases h0 : i = 0
  · subst h0
    show (lb y 0 && decide (0 = 0)) = (BitVec.ofNat 32 (bN (lb y 0))).getLsbD 0
    cases lb y 0 <;> decide
  · rw [decide_eq_false h0, Bool.and_false]
    show false = (BitVec.ofNat 32 (bN (lb y 0))).getLsbD i
    cases lb y 0
    · show false = (BitVec.ofNat 32 0).getLsbD i
      simp
    · show false = (BitVec.ofNat 32 1).getLsbD i
      rw [e2, decide_eq_false h0]
/-- a mask of the lowest k bits -/
theorem lb_rest {k t : Nat} (hk : k < 64) (ht : t < 64) : lb (lN 1 <<< (Int32.toInt64 (nI k) &&& 63) - lN 1) t = decide (t < k) := by
  have h : ∀ k, k < 64 → lN 1 <<< (Int32.toInt64 (nI k) &&& 63) - lN 1 = lN (2 ^ k - 1) := by decide +kernel
  rw [h k hk, lb_lN t ht, Nat.testBit_two_pow_sub_one]
theorem popc_rest {x y : Int64} {k : Nat} (hk : k < 64) : popc ((x &&& y) &&& (lN 1 <<< (Int32.toInt64 (nI k) &&& 63) - lN 1)) = fb_ct (fun t => lb x t && lb y t) k := by
  unfold popc
  have e : (64 : Nat) = k + (64 - k) := by omega
  have h1 : fb_ct (fun t => lb ((x &&& y) &&& (lN 1 <<< (Int32.toInt64 (nI k) &&& 63) - lN 1)) t) 64 = fb_ct (fun t => (lb x t && lb y t) && decide (t < k)) 64 := fb_ct_cong fun t ht => by rw [lb_and, lb_and, lb_rest hk ht]
  rw [h1, e, fb_ct_split]
  have h2 : fb_ct (fun t => (lb x (k + t) && lb y (k + t)) && decide (k + t < k)) (64 - k) = 0 := fb_ct_zero.mpr fun t _ => by rw [decide_eq_false (by omega), Bool.and_false]
  rw [h2, Nat.add_zero]
  exact fb_ct_cong fun t ht => by rw [decide_eq_true ht, Bool.and_true]
theorem popc_and (x y : Int64) : popc (x &&& y) = fb_ct (fun t => lb x t && lb y t) 64 := fb_ct_cong fun t _ => lb_and x y t
theorem ones_step (g : GF) (a b w : Nat) : fb_ct (fun t => gb g a t && gb g b t) (64 * (w + 1)) = fb_ct (fun t => gb g a t && gb g b t) (64 * w) + popc (g a w &&& g b w) := by
  rw [show 64 * (w + 1) = 64 * w + 64 from rfl, fb_ct_split, popc_and]
  congr 1
  refine fb_ct_cong fun t ht => ?_
  unfold gb
  rw [show (64 * w + t) / 64 = w from by omega, show (64 * w + t) % 64 = t from by omega]
theorem ones_end (g : GF) (a b tk : Nat) : fb_ct (fun t => gb g a t && gb g b t) tk = fb_ct (fun t => gb g a t && gb g b t) (64 * (tk / 64)) + popc ((g a (tk / 64) &&& g b (tk / 64)) &&& (lN 1 <<< (Int32.toInt64 (nI (tk % 64)) &&& 63) - lN 1)) := by
  rw [popc_rest (Nat.mod_lt _ (by decide))]
  have e : tk = 64 * (tk / 64) + tk % 64 := (Nat.div_add_mod _ _).symm
  have h := fb_ct_split (fun t => gb g a t && gb g b t) (64 * (tk / 64)) (tk % 64)
  rw [← e] at h
  rw [h]
  congr 1
  refine fb_ct_cong fun t ht => ?_
  have ht2 : t < 64 := Nat.lt_trans ht (Nat.mod_lt _ (by decide))
  unfold gb
  rw [show (64 * (tk / 64) + t) / 64 = tk / 64 from by omega, show (64 * (tk / 64) + t) % 64 = t from by omega]
end
section
set_option maxHeartbeats 400000 in
set_option maxRecDepth 100000 in
theorem kX4_bitAt (l : Launch) (E : EV) (u : SS) (i t : Nat) (hi : i < 16) (ht : t < 1024) : CT l yX4_bitAt cX4_bitAt 3 (some .int) (Rm 1 23) [.ref (eA E 9), .int (nI i), .int (nI t)] E u (Q_i E (fun r _ => r = nI (bN (gb u.2 i t))) (fun (_ : Unit) => u)) := by
  refine mstart RX4 (by decide +kernel) rfl (Nat.le_of_ble_eq_true rfl) ?_
  intro p e s m args below meth co ls Q hQ F hI hl
  have hx := F.1
  have hy := F.2.1
  have hl : lv_has ls 3 [(0, .ref (eA E 9)), (1, .int (nI i)), (2, .int (nI t))] := hl
  refine lv_aload_n hx hy dX4_bitAt_0 rfl (lv_at hl 0 rfl) ?_
  refine lv_iload_n hx hy dX4_bitAt_1 rfl (lv_at hl 1 rfl) ?_
  refine lv_iload_n hx hy dX4_bitAt_2 rfl (lv_at hl 2 rfl) ?_
  refine lv_bipush (v := nI 64) hx hy dX4_bitAt_3 (by decide) ?_
  refine lv_idiv hx hy dX4_bitAt_5 (fun q => absurd ((nI_eq (by omega) (by omega)).mp (show nI (64) = nI 0 from q)) (by omega)) ?_
  refine tI (pk_div (a := t) (d := 64) (by omega) (by omega) (by omega)) ?_
  refine zL hI (xV F hI hl (kX4_wordAt l E (u) i (by omega) (nI (t / 64))) M_X4_45 (rX4 F hI) rfl ⟨Nat.le_of_ble_eq_true rfl, Nat.le_of_ble_eq_true rfl⟩ ⟨Nat.zero_le _, Nat.zero_le _⟩ rfl (Nat.le_of_ble_eq_true rfl) dX4_bitAt_6) (fun r2 v3 H locs hI hp1 => ?_)
  rw [wdE_in (by omega) (by omega)] at hp1
  subst hp1
  refine lv_iload_n hx hy dX4_bitAt_9 rfl (lv_at hl 2 rfl) ?_
  refine lv_bipush (v := nI 64) hx hy dX4_bitAt_10 (by decide) ?_
  refine lv_irem hx hy dX4_bitAt_12 (fun q => absurd ((nI_eq (by omega) (by omega)).mp (show nI (64) = nI 0 from q)) (by omega)) ?_
  refine tI (pk_rem (a := t) (d := 64) (by omega) (by omega) (by omega)) ?_
  refine lv_lushr (v := (Int64.toUInt64 (u.2 i (t / 64)) >>> ((Int32.toInt64 (nI (t % 64))).toUInt64 &&& Int64.toUInt64 63)).toInt64) hx hy dX4_bitAt_13 rfl ?_
  refine lv_l2i (v := Int64.toInt32 ((Int64.toUInt64 (u.2 i (t / 64)) >>> ((Int32.toInt64 (nI (t % 64))).toUInt64 &&& Int64.toUInt64 63)).toInt64)) hx hy dX4_bitAt_14 rfl ?_
  refine lv_iconst (v := nI 1) hx hy dX4_bitAt_15 (by decide) ?_
  refine lv_iand hx hy dX4_bitAt_16 ?_
  exact rI hQ F (v := ()) hI dX4_bitAt_17 (by rw [bitAt_eq _ (Nat.mod_lt _ (by decide))]; rfl)
set_option maxHeartbeats 400000 in
set_option maxRecDepth 100000 in
theorem kX4_onesInBoth (l : Launch) (E : EV) (u : SS) (a b tk : Nat) (ha : a < 16) (hb : b < 16) (htk : tk ≤ 1000) : CT l yX4_onesInBoth cX4_onesInBoth 8 (some .int) (Rm 1 23) [.ref (eA E 9), .int (nI a), .int (nI b), .int (nI tk)] E u (Q_i E (fun r _ => r = nI (fb_ct (fun t => gb u.2 a t && gb u.2 b t) tk)) (fun (_ : Unit) => u)) := by
  refine mstart RX4 (by decide +kernel) rfl (Nat.le_of_ble_eq_true rfl) ?_
  intro p e s m args below meth co ls Q hQ F hI hl
  have hx := F.1
  have hy := F.2.1
  have hl : lv_has ls 8 [(0, .ref (eA E 9)), (1, .int (nI a)), (2, .int (nI b)), (3, .int (nI tk))] := hl
  refine lv_iconst (v := nI 0) hx hy dX4_onesInBoth_0 (by decide) ?_
  refine lv_istore (lv' := [(4, .int (nI 0)), (0, .ref (eA E 9)), (1, .int (nI a)), (2, .int (nI b)), (3, .int (nI tk))]) hx hy dX4_onesInBoth_1 hl (by decide) rfl (fun ls hl => ?_)
  refine lv_iload_n hx hy dX4_onesInBoth_3 rfl (lv_at hl 4 rfl) ?_
  refine lv_bipush (v := nI 64) hx hy dX4_onesInBoth_4 (by decide) ?_
  refine lv_idiv hx hy dX4_onesInBoth_6 (fun q => absurd ((nI_eq (by omega) (by omega)).mp (show nI (64) = nI 0 from q)) (by omega)) ?_
  refine tI (pk_div (a := tk) (d := 64) (by omega) (by omega) (by omega)) ?_
  refine lv_istore (lv' := [(5, .int (nI (tk / 64))), (4, .int (nI 0)), (0, .ref (eA E 9)), (1, .int (nI a)), (2, .int (nI b)), (3, .int (nI tk))]) hx hy dX4_onesInBoth_7 hl (by decide) rfl (fun ls hl => ?_)
  refine lv_iconst (v := nI 0) hx hy dX4_onesInBoth_9 (by decide) ?_
  refine lv_istore (lv' := [(6, .int (nI 0)), (5, .int (nI (tk / 64))), (4, .int (nI 0)), (0, .ref (eA E 9)), (1, .int (nI a)), (2, .int (nI b)), (3, .int (nI tk))]) hx hy dX4_onesInBoth_10 hl (by decide) rfl (fun ls hl => ?_)
  have lp1 : ∀ (fu : Nat) (w : Nat), (w ≤ tk / 64) → (tk / 64 - w < fu) →  ∀ (H : Heap) (locs : List Loc) (ls : Array Slot), Iv E s H locs (u) → lv_has ls 8 [(6, .int (nI w)), (4, .int (nI (fb_ct (fun t => gb u.2 a t && gb u.2 b t) (64 * w)))), (5, .int (nI (tk / 64))), (0, .ref (eA E 9)), (1, .int (nI a)), (2, .int (nI b)), (3, .int (nI tk))] → W p l e (Rm 1 23) s m args below meth co H locs 0 0 Q (F0 m 12 ls []) := by
    intro fu
    induction fu with
    | zero => intro w hi hf; exact absurd hf (Nat.not_lt_zero _)
    | succ fu ih =>
      intro w hi hf H locs ls hI hl
      have ih_12 := ih
      refine lv_iload hx hy dX4_onesInBoth_12 (lv_at hl 0 rfl) ?_
      refine lv_iload hx hy dX4_onesInBoth_14 (lv_at hl 2 rfl) ?_
      refine lv_icmp_ge (tgt := 48) hx hy dX4_onesInBoth_16 (by decide) (fun h2 => ?_) (fun h2 => ?_)
      · have h2 : tk / 64 ≤ w := (nI_leI (a := tk / 64) (b := w) (by omega) (by omega)).mp h2
        have e8 : w = tk / 64 := by omega
        rw [e8] at hl
        refine lv_lconst (v := lN 1) hx hy dX4_onesInBoth_48 (by decide) ?_
        refine lv_iload_n hx hy dX4_onesInBoth_49 rfl (lv_at hl 6 rfl) ?_
        refine lv_bipush (v := nI 64) hx hy dX4_onesInBoth_50 (by decide) ?_
        refine lv_irem hx hy dX4_onesInBoth_52 (fun q => absurd ((nI_eq (by omega) (by omega)).mp (show nI (64) = nI 0 from q)) (by omega)) ?_
        refine tI (pk_rem (a := tk) (d := 64) (by omega) (by omega) (by omega)) ?_
        refine lv_lshl (v := (lN 1) <<< (Int32.toInt64 (nI (tk % 64)) &&& 63)) hx hy dX4_onesInBoth_53 rfl ?_
        refine lv_lconst (v := lN 1) hx hy dX4_onesInBoth_54 (by decide) ?_
        refine lv_lsub hx hy dX4_onesInBoth_55 ?_
        refine lv_lstore (lv' := [(6, .long (((lN 1) <<< (Int32.toInt64 (nI (tk % 64)) &&& 63)) - (lN 1))), (4, .int (nI (fb_ct (fun t => gb u.2 a t && gb u.2 b t) (64 * (tk / 64))))), (5, .int (nI (tk / 64))), (0, .ref (eA E 9)), (1, .int (nI a)), (2, .int (nI b)), (3, .int (nI tk))]) hx hy dX4_onesInBoth_56 hl (by decide) rfl (fun ls hl => ?_)
        refine lv_iload hx hy dX4_onesInBoth_58 (lv_at hl 1 rfl) ?_
        refine lv_aload_n hx hy dX4_onesInBoth_60 rfl (lv_at hl 3 rfl) ?_
        refine lv_iload_n hx hy dX4_onesInBoth_61 rfl (lv_at hl 4 rfl) ?_
        refine lv_iload hx hy dX4_onesInBoth_62 (lv_at hl 2 rfl) ?_
        refine zL hI (xV F hI hl (kX4_wordAt l E (u) a (by omega) (nI (tk / 64))) M_X4_45 (rX4 F hI) rfl ⟨Nat.le_of_ble_eq_true rfl, Nat.le_of_ble_eq_true rfl⟩ ⟨Nat.zero_le _, Nat.zero_le _⟩ rfl (Nat.le_of_ble_eq_true rfl) dX4_onesInBoth_64) (fun r4 v5 H locs hI hp3 => ?_)
        rw [wdE_in (by omega) (by omega)] at hp3
        subst hp3
        refine lv_aload_n hx hy dX4_onesInBoth_67 rfl (lv_at hl 3 rfl) ?_
        refine lv_iload_n hx hy dX4_onesInBoth_68 rfl (lv_at hl 5 rfl) ?_
        refine lv_iload hx hy dX4_onesInBoth_69 (lv_at hl 2 rfl) ?_
        refine zL hI (xV F hI hl (kX4_wordAt l E (u) b (by omega) (nI (tk / 64))) M_X4_45 (rX4 F hI) rfl ⟨Nat.le_of_ble_eq_true rfl, Nat.le_of_ble_eq_true rfl⟩ ⟨Nat.zero_le _, Nat.zero_le _⟩ rfl (Nat.le_of_ble_eq_true rfl) dX4_onesInBoth_71) (fun r7 v8 H locs hI hp6 => ?_)
        rw [wdE_in (by omega) (by omega)] at hp6
        subst hp6
        refine lv_land hx hy dX4_onesInBoth_74 ?_
        refine lv_lload hx hy dX4_onesInBoth_75 (lv_at hl 0 rfl) ?_
        refine lv_land hx hy dX4_onesInBoth_77 ?_
        refine zI hI (xS F hI hl (kJ13_bitCount_95d88 l E (u) (((u.2 a (tk / 64)) &&& (u.2 b (tk / 64))) &&& (((lN 1) <<< (Int32.toInt64 (nI (tk % 64)) &&& 63)) - (lN 1)))) M_X4_55 rfl ⟨Nat.le_of_ble_eq_true rfl, Nat.le_of_ble_eq_true rfl⟩ ⟨Nat.zero_le _, Nat.zero_le _⟩ rfl (Nat.le_of_ble_eq_true rfl) dX4_onesInBoth_78) (fun r10 v11 H locs hI hp9 => ?_)
        subst hp9
        refine lv_iadd hx hy dX4_onesInBoth_81 ?_
        refine tI (nI_add (fb_ct (fun t => gb u.2 a t && gb u.2 b t) (64 * (tk / 64))) (popc (((u.2 a (tk / 64)) &&& (u.2 b (tk / 64))) &&& (((lN 1) <<< (Int32.toInt64 (nI (tk % 64)) &&& 63)) - (lN 1))))) ?_
        exact rI hQ F (v := ()) hI dX4_onesInBoth_82 (congrArg nI (ones_end u.2 a b tk).symm)
      · have h2 : w < tk / 64 := Nat.lt_of_not_le (fun q9 => h2 ((nI_leI (a := tk / 64) (b := w) (by omega) (by omega)).mpr q9))
        refine lv_iload hx hy dX4_onesInBoth_19 (lv_at hl 1 rfl) ?_
        refine lv_aload_n hx hy dX4_onesInBoth_21 rfl (lv_at hl 3 rfl) ?_
        refine lv_iload_n hx hy dX4_onesInBoth_22 rfl (lv_at hl 4 rfl) ?_
        refine lv_iload hx hy dX4_onesInBoth_23 (lv_at hl 0 rfl) ?_
        refine zL hI (xV F hI hl (kX4_wordAt l E (u) a (by omega) (nI w)) M_X4_45 (rX4 F hI) rfl ⟨Nat.le_of_ble_eq_true rfl, Nat.le_of_ble_eq_true rfl⟩ ⟨Nat.zero_le _, Nat.zero_le _⟩ rfl (Nat.le_of_ble_eq_true rfl) dX4_onesInBoth_25) (fun r13 v14 H locs hI hp12 => ?_)
        rw [wdE_in (by omega) (by omega)] at hp12
        subst hp12
        refine lv_aload_n hx hy dX4_onesInBoth_28 rfl (lv_at hl 3 rfl) ?_
        refine lv_iload_n hx hy dX4_onesInBoth_29 rfl (lv_at hl 5 rfl) ?_
        refine lv_iload hx hy dX4_onesInBoth_30 (lv_at hl 0 rfl) ?_
        refine zL hI (xV F hI hl (kX4_wordAt l E (u) b (by omega) (nI w)) M_X4_45 (rX4 F hI) rfl ⟨Nat.le_of_ble_eq_true rfl, Nat.le_of_ble_eq_true rfl⟩ ⟨Nat.zero_le _, Nat.zero_le _⟩ rfl (Nat.le_of_ble_eq_true rfl) dX4_onesInBoth_32) (fun r16 v17 H locs hI hp15 => ?_)
        rw [wdE_in (by omega) (by omega)] at hp15
        subst hp15
        refine lv_land hx hy dX4_onesInBoth_35 ?_
        refine zI hI (xS F hI hl (kJ13_bitCount_95d88 l E (u) ((u.2 a w) &&& (u.2 b w))) M_X4_55 rfl ⟨Nat.le_of_ble_eq_true rfl, Nat.le_of_ble_eq_true rfl⟩ ⟨Nat.zero_le _, Nat.zero_le _⟩ rfl (Nat.le_of_ble_eq_true rfl) dX4_onesInBoth_36) (fun r19 v20 H locs hI hp18 => ?_)
        subst hp18
        refine lv_iadd hx hy dX4_onesInBoth_39 ?_
        refine tI (nI_add (fb_ct (fun t => gb u.2 a t && gb u.2 b t) (64 * w)) (popc ((u.2 a w) &&& (u.2 b w)))) ?_
        refine lv_istore (lv' := [(4, .int (nI (fb_ct (fun t => gb u.2 a t && gb u.2 b t) (64 * w) + (popc ((u.2 a w) &&& (u.2 b w)))))), (6, .int (nI w)), (5, .int (nI (tk / 64))), (0, .ref (eA E 9)), (1, .int (nI a)), (2, .int (nI b)), (3, .int (nI tk))]) hx hy dX4_onesInBoth_40 hl (by decide) rfl (fun ls hl => ?_)
        rw [← ones_step u.2 a b w] at hl
        refine lv_iinc (v := nI (w + 1)) (lv' := [(6, .int (nI (w + 1))), (4, .int (nI (fb_ct (fun t => gb u.2 a t && gb u.2 b t) (64 * (w + 1))))), (5, .int (nI (tk / 64))), (0, .ref (eA E 9)), (1, .int (nI a)), (2, .int (nI b)), (3, .int (nI tk))]) hx hy dX4_onesInBoth_42 hl (k := 1) rfl (nI_add (w) 1) (by decide) rfl (fun ls hl => ?_)
        refine lv_goto (tgt := 12) hx hy dX4_onesInBoth_45 (by decide) ?_
        exact ih_12 (w + 1) (by omega) (by omega) _ _ _ hI (lv_sub hl [0, 1, 2, 3, 4, 5, 6] rfl)
  exact lp1 (tk / 64 + 1) 0 (Nat.zero_le _) (by omega) _ _ _ hI (lv_sub hl [0, 2, 1, 3, 4, 5, 6] rfl)
set_option maxHeartbeats 400000 in
set_option maxRecDepth 100000 in
theorem kX4_onesIn (l : Launch) (E : EV) (u : SS) (a tk : Nat) (ha : a < 16) (htk : tk ≤ 1000) : CT l yX4_onesIn cX4_onesIn 3 (some .int) (Rm 2 50) [.ref (eA E 9), .int (nI a), .int (nI tk)] E u (Q_i E (fun r _ => r = nI (fb_ct (fun t => gb u.2 a t) tk)) (fun (_ : Unit) => u)) := by
  refine mstart RX4 (by decide +kernel) rfl (Nat.le_of_ble_eq_true rfl) ?_
  intro p e s m args below meth co ls Q hQ F hI hl
  have hx := F.1
  have hy := F.2.1
  have hl : lv_has ls 3 [(0, .ref (eA E 9)), (1, .int (nI a)), (2, .int (nI tk))] := hl
  refine lv_aload_n hx hy dX4_onesIn_0 rfl (lv_at hl 0 rfl) ?_
  refine lv_iload_n hx hy dX4_onesIn_1 rfl (lv_at hl 1 rfl) ?_
  refine lv_iload_n hx hy dX4_onesIn_2 rfl (lv_at hl 1 rfl) ?_
  refine lv_iload_n hx hy dX4_onesIn_3 rfl (lv_at hl 2 rfl) ?_
  refine zI hI (xV F hI hl (kX4_onesInBoth l E (u) a a tk (by omega) (by omega) (by omega)) M_X4_51 (rX4 F hI) rfl ⟨Nat.le_of_ble_eq_true rfl, Nat.le_of_ble_eq_true rfl⟩ ⟨Nat.zero_le _, Nat.zero_le _⟩ rfl (Nat.le_of_ble_eq_true rfl) dX4_onesIn_4) (fun r2 v3 H locs hI hp1 => ?_)
  subst hp1
  exact rI hQ F (v := ()) hI dX4_onesIn_7 (congrArg nI (fb_ct_cong fun t _ => Bool.and_self _))
end
section
/-! exact shares, depths, origins: each line's out of those ahead -/
def tabN (st : Nat → Ln → (Nat → Nat) → Nat) (f : Nat → Ln) : Nat → Nat → Nat
  | 0 => fun _ => 0
  | j + 1 => fun i => if i = j then st j (f j) (tabN st f j) else tabN st f j i
def cv (st : Nat → Ln → (Nat → Nat) → Nat) (f : Nat → Ln) (j : Nat) : Nat := tabN st f (j + 1) j
theorem tabN_eq (st : Nat → Ln → (Nat → Nat) → Nat) (f : Nat → Ln) : ∀ (j i : Nat), i < j → tabN st f j i = cv st f i
  | 0, i, h => absurd h (Nat.not_lt_zero i)
  | j + 1, i, h => by
    by_cases e : i = j
    · subst e
      rfl
    · show (if i = j then st j (f j) (tabN st f j) else tabN st f j i) = _
      rw [if_neg e]
      exact tabN_eq st f j i (by omega)
theorem cv_eq {st : Nat → Ln → (Nat → Nat) → Nat} (hst : ∀ j q X Y, LnOk j q → (∀ i, i < j → X i = Y i) → st j q X = st j q Y) {f : Nat → Ln} {j : Nat} (hq : LnOk j (f j)) : cv st f j = st j (f j) (cv st f) := by
  show (if j = j then st j (f j) (tabN st f j) else tabN st f j j) = _
  rw [if_pos rfl]
  exact hst j _ _ _ hq (fun i hi => tabN_eq st f j i hi)
theorem tabN_cong (st : Nat → Ln → (Nat → Nat) → Nat) {f f' : Nat → Ln} : ∀ j, (∀ k, k < j → f k = f' k) → tabN st f j = tabN st f' j
  | 0, _ => rfl
  | j + 1, h => by
    funext i
    show (if i = j then st j (f j) (tabN st f j) else tabN st f j i) = (if i = j then st j (f' j) (tabN st f' j) else tabN st f' j i)
    rw [tabN_cong st j (fun k hk => h k (by omega)), h j (by omega)]
theorem cv_cong (st : Nat → Ln → (Nat → Nat) → Nat) {f f' : Nat → Ln} {j : Nat} (h : ∀ k, k ≤ j → f k = f' k) : cv st f j = cv st f' j := by
  unfold cv
  rw [tabN_cong st (j + 1) (fun k hk => h k (by omega))]
def exS (_ : Nat) (q : Ln) (X : Nat → Nat) : Nat :=
  if q.1 = 0 then q.2.1 * 256
  else if q.1 = 1 then X q.2.1 * X q.2.2.1 / 65536
  else if q.1 = 2 then X q.2.1 + X q.2.2.1 - X q.2.1 * X q.2.2.1 / 65536
  else if q.1 = 3 then X q.2.1 + X q.2.2.1 - 2 * (X q.2.1 * X q.2.2.1 / 65536)
  else if q.1 = 4 then (X q.2.1 * X q.2.2.2 + X q.2.2.1 * (65536 - X q.2.2.2)) / 65536
  else if q.1 = 5 then 65536 - X q.2.1
  else X q.2.1
def dpS (_ : Nat) (q : Ln) (X : Nat → Nat) : Nat :=
  if q.1 = 0 then 0
  else if q.1 ≤ 3 then max (1 + X q.2.1) (1 + X q.2.2.1)
  else if q.1 = 4 then max (max (1 + X q.2.1) (1 + X q.2.2.1)) (1 + X q.2.2.2)
  else 1 + X q.2.1
def ogS (j : Nat) (q : Ln) (X : Nat → Nat) : Nat :=
  if q.1 = 0 then 2 ^ j
  else if q.1 ≤ 3 then X q.2.1 ||| X q.2.2.1
  else if q.1 = 4 then X q.2.1 ||| X q.2.2.1 ||| X q.2.2.2
  else X q.2.1
def ex (f : Nat → Ln) (j : Nat) : Nat := cv exS f j
def dp (f : Nat → Ln) (j : Nat) : Nat := cv dpS f j
def og (f : Nat → Ln) (j : Nat) : Nat := cv ogS f j
theorem LnOk.ahead {j : Nat} {q : Ln} (h : LnOk j q) : q.1 = 0 ∨ (1 ≤ q.1 ∧ q.1 ≤ 3 ∧ q.2.1 < j ∧ q.2.2.1 < j) ∨ (q.1 = 4 ∧ q.2.1 < j ∧ q.2.2.1 < j ∧ q.2.2.2 < j) ∨ (q.1 = 5 ∧ q.2.1 < j) ∨ (q.1 = 6 ∧ q.2.1 < j) := by
  obtain ⟨h1, h2, h3, h4, h5, -⟩ := h
  rcases (show q.1 = 0 ∨ (1 ≤ q.1 ∧ q.1 ≤ 3) ∨ q.1 = 4 ∨ q.1 = 5 ∨ q.1 = 6 by omega) with k | k | k | k | k
  · exact Or.inl k
  · exact Or.inr (Or.inl ⟨k.1, k.2, h3 (by omega), h4 (by omega) (by omega)⟩)
  · exact Or.inr (Or.inr (Or.inl ⟨k, h3 (by omega), h4 (by omega) (by omega), h5 k⟩))
  · exact Or.inr (Or.inr (Or.inr (Or.inl ⟨k, h3 (by omega)⟩)))
  · exact Or.inr (Or.inr (Or.inr (Or.inr ⟨k, h3 (by omega)⟩)))
theorem exS_c (j : Nat) (q : Ln) (X Y : Nat → Nat) (hq : LnOk j q) (h : ∀ i, i < j → X i = Y i) : exS j q X = exS j q Y := by
  unfold exS
  rcases hq.ahead with k | ⟨k1, k2, ha, hb⟩ | ⟨k, ha, hb, hc⟩ | ⟨k, ha⟩ | ⟨k, ha⟩
  · rw [if_pos k, if_pos k]
  · rw [h _ ha, h _ hb]
    simp only [show ¬ q.1 = 4 by omega, show ¬ q.1 = 5 by omega, if_false]
  · rw [h _ ha, h _ hb, h _ hc]
  · rw [h _ ha]
    simp only [show ¬ q.1 = 1 by omega, show ¬ q.1 = 2 by omega, show ¬ q.1 = 3 by omega, show ¬ q.1 = 4 by omega, if_false]
  · rw [h _ ha]
    simp only [show ¬ q.1 = 1 by omega, show ¬ q.1 = 2 by omega, show ¬ q.1 = 3 by omega, show ¬ q.1 = 4 by omega, if_false]
theorem dpS_c (j : Nat) (q : Ln) (X Y : Nat → Nat) (hq : LnOk j q) (h : ∀ i, i < j → X i = Y i) : dpS j q X = dpS j q Y := by
  unfold dpS
  rcases hq.ahead with k | ⟨k1, k2, ha, hb⟩ | ⟨k, ha, hb, hc⟩ | ⟨k, ha⟩ | ⟨k, ha⟩
  · rw [if_pos k, if_pos k]
  · rw [h _ ha, h _ hb]
    simp only [show ¬ q.1 = 4 by omega, if_false]
  · rw [h _ ha, h _ hb, h _ hc]
  · rw [h _ ha]
    simp only [show ¬ q.1 ≤ 3 by omega, show ¬ q.1 = 4 by omega, if_false]
  · rw [h _ ha]
    simp only [show ¬ q.1 ≤ 3 by omega, show ¬ q.1 = 4 by omega, if_false]
theorem ogS_c (j : Nat) (q : Ln) (X Y : Nat → Nat) (hq : LnOk j q) (h : ∀ i, i < j → X i = Y i) : ogS j q X = ogS j q Y := by
  unfold ogS
  rcases hq.ahead with k | ⟨k1, k2, ha, hb⟩ | ⟨k, ha, hb, hc⟩ | ⟨k, ha⟩ | ⟨k, ha⟩
  · rw [if_pos k, if_pos k]
  · rw [h _ ha, h _ hb]
    simp only [show ¬ q.1 = 4 by omega, if_false]
  · rw [h _ ha, h _ hb, h _ hc]
  · rw [h _ ha]
    simp only [show ¬ q.1 ≤ 3 by omega, show ¬ q.1 = 4 by omega, if_false]
  · rw [h _ ha]
    simp only [show ¬ q.1 ≤ 3 by omega, show ¬ q.1 = 4 by omega, if_false]
theorem ex_eq {f : Nat → Ln} {j : Nat} (hq : LnOk j (f j)) : ex f j = exS j (f j) (ex f) := cv_eq exS_c hq
theorem dp_eq {f : Nat → Ln} {j : Nat} (hq : LnOk j (f j)) : dp f j = dpS j (f j) (dp f) := cv_eq dpS_c hq
theorem og_eq {f : Nat → Ln} {j : Nat} (hq : LnOk j (f j)) : og f j = ogS j (f j) (og f) := cv_eq ogS_c hq
theorem pq_le {a b : Nat} (ha : a ≤ 65536) : a * b / 65536 ≤ b := by
  have : a * b ≤ 65536 * b := Nat.mul_le_mul_right b ha
  omega
theorem pq_le2 {a b : Nat} (hb : b ≤ 65536) : a * b / 65536 ≤ a := by
  rw [Nat.mul_comm]
  exact pq_le hb
theorem pq_ge {a b : Nat} (ha : a ≤ 65536) (hb : b ≤ 65536) : a + b ≤ a * b / 65536 + 65536 := by
  obtain ⟨x, hx⟩ : ∃ x, x = 65536 - a := ⟨_, rfl⟩
  obtain ⟨y, hy⟩ : ∃ y, y = 65536 - b := ⟨_, rfl⟩
  have ea : a = 65536 - x := by omega
  have eb : b = 65536 - y := by omega
  have h : 65536 * (a + b) ≤ a * b + 65536 * 65536 := by
    obtain ⟨b', hb'⟩ : ∃ b', 65536 = b + b' := ⟨65536 - b, by omega⟩
    have h1 : a * b' ≤ 65536 * b' := Nat.mul_le_mul_right b' ha
    have h2 : a * 65536 = a * b + a * b' := by
      have : a * (b + b') = a * b + a * b' := Nat.mul_add a b b'
      rw [← hb'] at this
      exact this
    omega
  omega
/-- twice the product: within the whole -/
theorem pq_2 {a b : Nat} (ha : a ≤ 65536) (hb : b ≤ 65536) : a + b - 2 * (a * b / 65536) ≤ 65536 := by
  obtain ⟨x, hx⟩ : ∃ x, x = 65536 - a := ⟨_, rfl⟩
  obtain ⟨y, hy⟩ : ∃ y, y = 65536 - b := ⟨_, rfl⟩
  rcases Nat.le_total a b with h | h
  · have h2 : b * 65536 ≤ a * b + 65536 * (65536 - a) := by
      obtain ⟨a', ha'⟩ : ∃ a', 65536 = a + a' := ⟨65536 - a, by omega⟩
      have e : b * (a + a') = b * a + b * a' := Nat.mul_add b a a'
      rw [← ha'] at e
      have h3 : b * a' ≤ 65536 * a' := Nat.mul_le_mul_right a' hb
      have e2 : b * a = a * b := Nat.mul_comm b a
      have e3 : 65536 - a = a' := by omega
      rw [e3]
      omega
    have h4 := pq_ge ha hb
    omega
  · have h4 := pq_ge ha hb
    omega
theorem mix_le {a b c : Nat} (ha : a ≤ 65536) (hb : b ≤ 65536) (hc : c ≤ 65536) : (a * c + b * (65536 - c)) / 65536 ≤ 65536 := by
  have h1 : a * c ≤ 65536 * c := Nat.mul_le_mul_right c ha
  have h2 : b * (65536 - c) ≤ 65536 * (65536 - c) := Nat.mul_le_mul_right _ hb
  omega
theorem ex_le {f : Nat → Ln} {n : Nat} (hok : ∀ j, j < n → LnOk j (f j)) : ∀ j, j < n → ex f j ≤ 65536 := by
  intro j
  induction j using Nat.strongRecOn with
  | ind j ih =>
    intro hj
    have hq := hok j hj
    rw [ex_eq hq]
    unfold exS
    rcases hq.ahead with k | ⟨k1, k2, ha, hb⟩ | ⟨k, ha, hb, hc⟩ | ⟨k, ha⟩ | ⟨k, ha⟩
    · rw [if_pos k]
      have := (hq.2.1 k).1
      omega
    · have xa := ih _ ha (by omega)
      have xb := ih _ hb (by omega)
      have p1 := pq_le (b := ex f (f j).2.2.1) xa
      have p2 := pq_ge xa xb
      have p3 := pq_2 xa xb
      rcases (show (f j).1 = 1 ∨ (f j).1 = 2 ∨ (f j).1 = 3 by omega) with k | k | k
      · simp only [k, if_neg (show ¬ (1 : Nat) = 0 by decide), if_pos]
        omega
      · simp only [k, if_neg (show ¬ (2 : Nat) = 0 by decide), if_neg (show ¬ (2 : Nat) = 1 by decide), if_pos]
        omega
      · simp only [k, if_neg (show ¬ (3 : Nat) = 0 by decide), if_neg (show ¬ (3 : Nat) = 1 by decide), if_neg (show ¬ (3 : Nat) = 2 by decide), if_pos]
        omega
    · have xa := ih _ ha (by omega)
      have xb := ih _ hb (by omega)
      have xc := ih _ hc (by omega)
      have := mix_le xa xb xc
      simp only [k, if_neg (show ¬ (4 : Nat) = 0 by decide), if_neg (show ¬ (4 : Nat) = 1 by decide), if_neg (show ¬ (4 : Nat) = 2 by decide), if_neg (show ¬ (4 : Nat) = 3 by decide), if_pos]
      exact this
    · simp only [k, if_neg (show ¬ (5 : Nat) = 0 by decide), if_neg (show ¬ (5 : Nat) = 1 by decide), if_neg (show ¬ (5 : Nat) = 2 by decide), if_neg (show ¬ (5 : Nat) = 3 by decide), if_neg (show ¬ (5 : Nat) = 4 by decide), if_pos]
      omega
    · have xa := ih _ ha (by omega)
      simp only [k, if_neg (show ¬ (6 : Nat) = 0 by decide), if_neg (show ¬ (6 : Nat) = 1 by decide), if_neg (show ¬ (6 : Nat) = 2 by decide), if_neg (show ¬ (6 : Nat) = 3 by decide), if_neg (show ¬ (6 : Nat) = 4 by decide), if_neg (show ¬ (6 : Nat) = 5 by decide)]
      exact xa
theorem dp_le {f : Nat → Ln} {n : Nat} (hok : ∀ j, j < n → LnOk j (f j)) : ∀ j, j < n → dp f j ≤ j := by
  intro j
  induction j using Nat.strongRecOn with
  | ind j ih =>
    intro hj
    have hq := hok j hj
    rw [dp_eq hq]
    unfold dpS
    rcases hq.ahead with k | ⟨k1, k2, ha, hb⟩ | ⟨k, ha, hb, hc⟩ | ⟨k, ha⟩ | ⟨k, ha⟩
    · rw [if_pos k]; omega
    · have xa := ih _ ha (by omega)
      have xb := ih _ hb (by omega)
      rw [if_neg (by omega), if_pos k2]
      omega
    · have xa := ih _ ha (by omega)
      have xb := ih _ hb (by omega)
      have xc := ih _ hc (by omega)
      rw [if_neg (by omega), if_neg (by omega), if_pos k]
      omega
    · have xa := ih _ ha (by omega)
      rw [if_neg (by omega), if_neg (by omega), if_neg (by omega)]
      omega
    · have xa := ih _ ha (by omega)
      rw [if_neg (by omega), if_neg (by omega), if_neg (by omega)]
      omega
theorem og_lt {f : Nat → Ln} {n : Nat} (h16 : n ≤ 16) (hok : ∀ j, j < n → LnOk j (f j)) : ∀ j, j < n → og f j < 2 ^ 16 := by
  intro j
  induction j using Nat.strongRecOn with
  | ind j ih =>
    intro hj
    have hq := hok j hj
    rw [og_eq hq]
    unfold ogS
    rcases hq.ahead with k | ⟨k1, k2, ha, hb⟩ | ⟨k, ha, hb, hc⟩ | ⟨k, ha⟩ | ⟨k, ha⟩
    · rw [if_pos k]
      exact Nat.pow_lt_pow_right (by decide) (by omega)
    · rw [if_neg (by omega), if_pos k2]
      exact Nat.or_lt_two_pow (ih _ ha (by omega)) (ih _ hb (by omega))
    · rw [if_neg (by omega), if_neg (by omega), if_pos k]
      exact Nat.or_lt_two_pow (Nat.or_lt_two_pow (ih _ ha (by omega)) (ih _ hb (by omega))) (ih _ hc (by omega))
    · rw [if_neg (by omega), if_neg (by omega), if_neg (by omega)]
      exact ih _ ha (by omega)
    · rw [if_neg (by omega), if_neg (by omega), if_neg (by omega)]
      exact ih _ ha (by omega)
def FigI (i : Nat) (f : Nat → Ln) (c : CF) : Prop := (∀ a, a < i → c 3 a = nI (ex f a)) ∧ (∀ a, a < i → c 4 a = nI (dp f a)) ∧ ∀ a, a < i → c 5 a = nI (og f a)
def FigO (c0 c : CF) : Prop := ∀ q i, q ≠ 3 → q ≠ 4 → q ≠ 5 → c q i = c0 q i
theorem RepL.keep {b n : Nat} {f : Nat → Ln} {c c' : CF} (h : RepL b c n f) (h2 : c' 2 b = c 2 b) (hk : ∀ i, c' (20 + b) i = c (20 + b) i) (hn : ∀ i, c' (30 + b) i = c (30 + b) i) : RepL b c' n f := by
  refine ⟨h2.trans h.1, fun j hj => ?_⟩
  obtain ⟨a1, a2, a3, a4⟩ := h.2 j hj
  exact ⟨(hk _).trans a1, (hn _).trans a2, (hn _).trans a3, (hn _).trans a4⟩
theorem RepL.fig {b n : Nat} {f : Nat → Ln} {c c' : CF} (h : RepL b c n f) (ho : FigO c c') : RepL b c' n f := h.keep (ho _ _ (by omega) (by omega) (by omega)) (fun i => ho _ _ (by omega) (by omega) (by omega)) (fun i => ho _ _ (by omega) (by omega) (by omega))
theorem FigO.up {c0 c : CF} {r i : Nat} {v : Int32} (h : FigO c0 c) (hr : r = 3 ∨ r = 4 ∨ r = 5) : FigO c0 (up c r i v) := fun q j h3 h4 h5 => by
  rw [up_at, if_neg (by omega)]
  exact h q j h3 h4 h5
theorem shl_pow : ∀ j, j < 16 → nI 1 <<< (nI j &&& 31) = nI (2 ^ j) := by decide
def mxN (g : Nat → Nat) : Nat → Nat
  | 0 => 0
  | i + 1 => max (mxN g i) (g i)
theorem mxN_le {g : Nat → Nat} {k : Nat} : ∀ n, (∀ i, i < n → g i ≤ k) → mxN g n ≤ k
  | 0, _ => Nat.zero_le _
  | n + 1, h => by
    have h1 := mxN_le (k := k) n (fun i hi => h i (by omega))
    have h2 := h n (by omega)
    show max (mxN g n) (g n) ≤ k
    omega
end
section
set_option maxHeartbeats 400000 in
set_option maxRecDepth 100000 in
theorem kX2_exactShareOf (l : Launch) (E : EV) (u : SS) (x : Int32) : CT l yX2_exactShareOf cX2_exactShareOf 2 (some .int) (Rm 1 21) [.ref (eA E 5), .int (x)] E u (Q_i E (fun r _ => r = el 16 (u.1 3) x) (fun (_ : Unit) => u)) := by
  refine mstart RX2 (by decide +kernel) rfl (Nat.le_of_ble_eq_true rfl) ?_
  intro p e s m args below meth co ls Q hQ F hI hl
  have hx := F.1
  have hy := F.2.1
  have hl : lv_has ls 2 [(0, .ref (eA E 5)), (1, .int (x))] := hl
  refine lv_aload_n hx hy dX2_exactShareOf_0 rfl (lv_at hl 0 rfl) ?_
  refine gX2_exactShares F hI L_X2_9 dX2_exactShareOf_1 ?_
  refine lv_iload_n hx hy dX2_exactShareOf_4 rfl (lv_at hl 1 rfl) ?_
  refine zI hI (xS F hI hl (kX5_elementAt l E (u) iX2_exactShares (by decide) x) M_X2_41 rfl ⟨Nat.le_of_ble_eq_true rfl, Nat.le_of_ble_eq_true rfl⟩ ⟨Nat.zero_le _, Nat.zero_le _⟩ rfl (Nat.le_of_ble_eq_true rfl) dX2_exactShareOf_5) (fun r2 v3 H locs hI hp1 => ?_)
  subst hp1
  exact rI hQ F (v := ()) hI dX2_exactShareOf_8 rfl
set_option maxHeartbeats 400000 in
set_option maxRecDepth 100000 in
theorem kX2_depthOf (l : Launch) (E : EV) (u : SS) (x : Int32) : CT l yX2_depthOf cX2_depthOf 2 (some .int) (Rm 1 21) [.ref (eA E 5), .int (x)] E u (Q_i E (fun r _ => r = el 16 (u.1 4) x) (fun (_ : Unit) => u)) := by
  refine mstart RX2 (by decide +kernel) rfl (Nat.le_of_ble_eq_true rfl) ?_
  intro p e s m args below meth co ls Q hQ F hI hl
  have hx := F.1
  have hy := F.2.1
  have hl : lv_has ls 2 [(0, .ref (eA E 5)), (1, .int (x))] := hl
  refine lv_aload_n hx hy dX2_depthOf_0 rfl (lv_at hl 0 rfl) ?_
  refine gX2_depths F hI L_X2_15 dX2_depthOf_1 ?_
  refine lv_iload_n hx hy dX2_depthOf_4 rfl (lv_at hl 1 rfl) ?_
  refine zI hI (xS F hI hl (kX5_elementAt l E (u) iX2_depths (by decide) x) M_X2_41 rfl ⟨Nat.le_of_ble_eq_true rfl, Nat.le_of_ble_eq_true rfl⟩ ⟨Nat.zero_le _, Nat.zero_le _⟩ rfl (Nat.le_of_ble_eq_true rfl) dX2_depthOf_5) (fun r2 v3 H locs hI hp1 => ?_)
  subst hp1
  exact rI hQ F (v := ()) hI dX2_depthOf_8 rfl
set_option maxHeartbeats 400000 in
set_option maxRecDepth 100000 in
theorem kX2_sourcesOf (l : Launch) (E : EV) (u : SS) {f : Nat → Ln} (j : Nat) (hj : j < 16) (hO : u.1 5 j = nI (og f j)) (hlt : og f j < 2 ^ 16) : CT l yX2_sourcesOf cX2_sourcesOf 2 (some .int) (Rm 1 21) [.ref (eA E 5), .int (nI j)] E u (Q_i E (fun r _ => r = nI (fb_ct (fun t => (og f j).testBit t) 32)) (fun (_ : Unit) => u)) := by
  refine mstart RX2 (by decide +kernel) rfl (Nat.le_of_ble_eq_true rfl) ?_
  intro p e s m args below meth co ls Q hQ F hI hl
  have hx := F.1
  have hy := F.2.1
  have hl : lv_has ls 2 [(0, .ref (eA E 5)), (1, .int (nI j))] := hl
  refine lv_aload_n hx hy dX2_sourcesOf_0 rfl (lv_at hl 0 rfl) ?_
  refine gX2_origins F hI L_X2_18 dX2_sourcesOf_1 ?_
  refine lv_iload_n hx hy dX2_sourcesOf_4 rfl (lv_at hl 1 rfl) ?_
  refine zI hI (xS F hI hl (kX5_elementAt l E (u) iX2_origins (by decide) (nI j)) M_X2_41 rfl ⟨Nat.le_of_ble_eq_true rfl, Nat.le_of_ble_eq_true rfl⟩ ⟨Nat.zero_le _, Nat.zero_le _⟩ rfl (Nat.le_of_ble_eq_true rfl) dX2_sourcesOf_5) (fun r2 v3 H locs hI hp1 => ?_)
  rw [el_lt (by omega) (by decide)] at hp1
  subst hp1
  refine tI hO ?_
  refine zI hI (xS F hI hl (kJ6_bitCount_0f7a4 l E (u) (og f j) (by omega)) M_X2_45 rfl ⟨Nat.le_of_ble_eq_true rfl, Nat.le_of_ble_eq_true rfl⟩ ⟨Nat.zero_le _, Nat.zero_le _⟩ rfl (Nat.le_of_ble_eq_true rfl) dX2_sourcesOf_8) (fun r5 v6 H locs hI hp4 => ?_)
  subst hp4
  exact rI hQ F (v := ()) hI dX2_sourcesOf_11 rfl
set_option maxHeartbeats 400000 in
set_option maxRecDepth 100000 in
theorem kX2_greatestDepth (l : Launch) (E : EV) (u : SS) {f : Nat → Ln} (n : Nat) (h16 : n ≤ 16) (hD : ∀ a, a < n → u.1 4 a = nI (dp f a)) (hle : ∀ a, a < n → dp f a ≤ 16) : CT l yX2_greatestDepth cX2_greatestDepth 4 (some .int) (Rm 2 42) [.ref (eA E 5), .int (nI n)] E u (Q_i E (fun r _ => r = nI (mxN (dp f) n)) (fun (_ : Unit) => u)) := by
  refine mstart RX2 (by decide +kernel) rfl (Nat.le_of_ble_eq_true rfl) ?_
  intro p e s m args below meth co ls Q hQ F hI hl
  have hx := F.1
  have hy := F.2.1
  have hl : lv_has ls 4 [(0, .ref (eA E 5)), (1, .int (nI n))] := hl
  refine lv_iconst (v := nI 0) hx hy dX2_greatestDepth_0 (by decide) ?_
  refine lv_istore_n (lv' := [(2, .int (nI 0)), (0, .ref (eA E 5)), (1, .int (nI n))]) hx hy dX2_greatestDepth_1 rfl hl (by decide) rfl (fun ls hl => ?_)
  refine lv_iconst (v := nI 0) hx hy dX2_greatestDepth_2 (by decide) ?_
  refine lv_istore_n (lv' := [(3, .int (nI 0)), (2, .int (nI 0)), (0, .ref (eA E 5)), (1, .int (nI n))]) hx hy dX2_greatestDepth_3 rfl hl (by decide) rfl (fun ls hl => ?_)
  have lp1 : ∀ (fu : Nat) (i : Nat), (i ≤ n) → (n - i < fu) →  ∀ (H : Heap) (locs : List Loc) (ls : Array Slot), Iv E s H locs (u) → lv_has ls 4 [(3, .int (nI i)), (2, .int (nI (mxN (dp f) i))), (0, .ref (eA E 5)), (1, .int (nI n))] → W p l e (Rm 2 42) s m args below meth co H locs 0 0 Q (F0 m 4 ls []) := by
    intro fu
    induction fu with
    | zero => intro i hi hf; exact absurd hf (Nat.not_lt_zero _)
    | succ fu ih =>
      intro i hi hf H locs ls hI hl
      have ih_4 := ih
      refine lv_iload_n hx hy dX2_greatestDepth_4 rfl (lv_at hl 0 rfl) ?_
      refine lv_iload_n hx hy dX2_greatestDepth_5 rfl (lv_at hl 3 rfl) ?_
      refine lv_icmp_ge (tgt := 25) hx hy dX2_greatestDepth_6 (by decide) (fun h2 => ?_) (fun h2 => ?_)
      · have h2 : n ≤ i := (nI_leI (a := n) (b := i) (by omega) (by omega)).mp h2
        refine lv_iload_n hx hy dX2_greatestDepth_25 rfl (lv_at hl 1 rfl) ?_
        exact rI hQ F (v := ()) hI dX2_greatestDepth_26 (by rw [show i = n from by omega])
      · have h2 : i < n := Nat.lt_of_not_le (fun q9 => h2 ((nI_leI (a := n) (b := i) (by omega) (by omega)).mpr q9))
        refine lv_iload_n hx hy dX2_greatestDepth_9 rfl (lv_at hl 1 rfl) ?_
        refine lv_aload_n hx hy dX2_greatestDepth_10 rfl (lv_at hl 2 rfl) ?_
        refine lv_iload_n hx hy dX2_greatestDepth_11 rfl (lv_at hl 0 rfl) ?_
        refine zI hI (xV F hI hl (kX2_depthOf l E (u) (nI i)) M_X2_51 (rX2 F hI) rfl ⟨Nat.le_of_ble_eq_true rfl, Nat.le_of_ble_eq_true rfl⟩ ⟨Nat.zero_le _, Nat.zero_le _⟩ rfl (Nat.le_of_ble_eq_true rfl) dX2_greatestDepth_12) (fun r4 v5 H locs hI hp3 => ?_)
        rw [el_lt (by omega) (by decide)] at hp3
        subst hp3
        refine tI (hD i (by omega)) ?_
        refine zm_max F hl M_X2_54 ⟨Nat.le_of_ble_eq_true rfl, Nat.le_of_ble_eq_true rfl⟩ ⟨Nat.zero_le _, Nat.zero_le _⟩ dX2_greatestDepth_15 ?_
        refine tI (mx_nI (a := mxN (dp f) i) (b := dp f i) (by have := mxN_le (g := dp f) (k := 16) i (fun a ha => hle a (by omega)); omega) (by have := hle i (by omega); omega)) ?_
        refine lv_istore_n (lv' := [(2, .int (nI (max (mxN (dp f) i) (dp f i)))), (3, .int (nI i)), (0, .ref (eA E 5)), (1, .int (nI n))]) hx hy dX2_greatestDepth_18 rfl hl (by decide) rfl (fun ls hl => ?_)
        refine lv_iinc (v := nI (i + 1)) (lv' := [(3, .int (nI (i + 1))), (2, .int (nI (max (mxN (dp f) i) (dp f i)))), (0, .ref (eA E 5)), (1, .int (nI n))]) hx hy dX2_greatestDepth_19 hl (k := 1) rfl (nI_add (i) 1) (by decide) rfl (fun ls hl => ?_)
        refine lv_goto (tgt := 4) hx hy dX2_greatestDepth_22 (by decide) ?_
        exact ih_4 (i + 1) (by omega) (by omega) _ _ _ hI (lv_sub hl [0, 1, 2, 3] rfl)
  exact lp1 (n + 1) 0 (Nat.zero_le _) (by omega) _ _ _ hI (lv_sub hl [0, 1, 2, 3] rfl)
set_option maxHeartbeats 400000 in
set_option maxRecDepth 100000 in
theorem kX2_productOf (l : Launch) (E : EV) (u : SS) (a b : Nat) (ha : a ≤ 65536) (hb : b ≤ 65536) : CT l yX2_productOf cX2_productOf 4 (some .int) (Rm 0 0) [.long (lN a), .long (lN b)] E u (Q_i E (fun r _ => r = nI (a * b / 65536)) (fun (_ : Unit) => u)) := by
  refine mstart RX2 (by decide +kernel) rfl (Nat.le_of_ble_eq_true rfl) ?_
  intro p e s m args below meth co ls Q hQ F hI hl
  have hx := F.1
  have hy := F.2.1
  have hl : lv_has ls 4 [(0, .long (lN a)), (2, .long (lN b))] := hl
  have hab : a * b ≤ 65536 * 65536 := Nat.mul_le_mul ha hb
  refine lv_lload_n hx hy dX2_productOf_0 rfl (lv_at hl 0 rfl) ?_
  refine lv_lload_n hx hy dX2_productOf_1 rfl (lv_at hl 1 rfl) ?_
  refine lv_lmul hx hy dX2_productOf_2 ?_
  refine tL (lN_mul (a) (b)) ?_
  refine zcl F K_X2_78 dX2_productOf_3 ?_
  refine tL (show _ = lN 65536 from rfl) ?_
  refine lv_ldiv hx hy dX2_productOf_6 (by decide) ?_
  refine tL (pk_lDiv (a := a * b) (b := 65536) (by omega) (by omega) (by omega)) ?_
  refine lv_l2i (v := nI ((a * b) / 65536)) hx hy dX2_productOf_7 (lN_i ((a * b) / 65536)) ?_
  exact rI hQ F (v := ()) hI dX2_productOf_8 rfl
set_option maxHeartbeats 400000 in
set_option maxRecDepth 100000 in
theorem kX2_mixOf (l : Launch) (E : EV) (u : SS) (a b c : Nat) (ha : a ≤ 65536) (hb : b ≤ 65536) (hc : c ≤ 65536) : CT l yX2_mixOf cX2_mixOf 6 (some .int) (Rm 0 0) [.long (lN a), .long (lN b), .long (lN c)] E u (Q_i E (fun r _ => r = nI ((a * c + b * (65536 - c)) / 65536)) (fun (_ : Unit) => u)) := by
  refine mstart RX2 (by decide +kernel) rfl (Nat.le_of_ble_eq_true rfl) ?_
  intro p e s m args below meth co ls Q hQ F hI hl
  have hx := F.1
  have hy := F.2.1
  have hl : lv_has ls 6 [(0, .long (lN a)), (2, .long (lN b)), (4, .long (lN c))] := hl
  have h1 : a * c ≤ 65536 * 65536 := Nat.mul_le_mul ha hc
  have h2 : b * (65536 - c) ≤ 65536 * 65536 := Nat.mul_le_mul hb (Nat.sub_le _ _)
  refine lv_lload_n hx hy dX2_mixOf_0 rfl (lv_at hl 0 rfl) ?_
  refine lv_lload hx hy dX2_mixOf_1 (lv_at hl 2 rfl) ?_
  refine lv_lmul hx hy dX2_mixOf_3 ?_
  refine tL (lN_mul (a) (c)) ?_
  refine lv_lload_n hx hy dX2_mixOf_4 rfl (lv_at hl 1 rfl) ?_
  refine zcl F K_X2_78 dX2_mixOf_5 ?_
  refine tL (show _ = lN 65536 from rfl) ?_
  refine lv_lload hx hy dX2_mixOf_8 (lv_at hl 2 rfl) ?_
  refine lv_lsub hx hy dX2_mixOf_10 ?_
  refine tL (lN_sub (a := 65536) (b := c) (by omega)) ?_
  refine lv_lmul hx hy dX2_mixOf_11 ?_
  refine tL (lN_mul (b) (65536 - c)) ?_
  refine lv_ladd hx hy dX2_mixOf_12 ?_
  refine tL (lN_add (a * c) (b * (65536 - c))) ?_
  refine zcl F K_X2_78 dX2_mixOf_13 ?_
  refine tL (show _ = lN 65536 from rfl) ?_
  refine lv_ldiv hx hy dX2_mixOf_16 (by decide) ?_
  refine tL (pk_lDiv (a := a * c + b * (65536 - c)) (b := 65536) (by omega) (by omega) (by omega)) ?_
  refine lv_l2i (v := nI ((a * c + b * (65536 - c)) / 65536)) hx hy dX2_mixOf_17 (lN_i ((a * c + b * (65536 - c)) / 65536)) ?_
  exact rI hQ F (v := ()) hI dX2_mixOf_18 rfl
set_option maxHeartbeats 400000 in
set_option maxRecDepth 100000 in
theorem kX2_exactShareIn (l : Launch) (E : EV) (u : SS) {b n : Nat} {f : Nat → Ln} (hb : b < 7) (hR : RepL b u.1 n f) (h16 : n ≤ 16) (j : Nat) (hj : j < n) (hok : LnOk j (f j)) (hX : ∀ i, i < j → u.1 3 i = nI (ex f i)) (hL : ∀ i, i < j → ex f i ≤ 65536) : CT l yX2_exactShareIn cX2_exactShareIn 6 (some .int) (Rm 2 43) [.ref (eA E 5), .ref (eA E (10 + 3 * b)), .int (nI j)] E u (Q_i E (fun r _ => r = nI (ex f j)) (fun (_ : Unit) => u)) := by
  refine mstart RX2 (by decide +kernel) rfl (Nat.le_of_ble_eq_true rfl) ?_
  intro p e s m args below meth co ls Q hQ F hI hl
  have hx := F.1
  have hy := F.2.1
  have hl : lv_has ls 6 [(0, .ref (eA E 5)), (1, .ref (eA E (10 + 3 * b))), (2, .int (nI j))] := hl
  have hk6 := hok.1
  have hB9 := hok.2.2.2.2.2.2.1
  have hC9 := hok.2.2.2.2.2.2.2
  rcases (show (f j).1 = 0 ∨ (f j).1 = 1 ∨ (f j).1 = 2 ∨ (f j).1 = 3 ∨ (f j).1 = 4 ∨ (f j).1 = 5 ∨ (f j).1 = 6 by omega) with hk1 | hk1 | hk1 | hk1 | hk1 | hk1 | hk1
  · refine lv_aload_n hx hy dX2_exactShareIn_0 rfl (lv_at hl 1 rfl) ?_
    refine lv_iload_n hx hy dX2_exactShareIn_1 rfl (lv_at hl 2 rfl) ?_
    refine lv_iconst (v := nI 1) hx hy dX2_exactShareIn_2 (by decide) ?_
    refine zI hI (xV F hI hl (kX0_numberOf l E (u) (b := b) hb (nI j) (nI 1)) M_X2_60 (rX0 F hI (b := b) hb) rfl ⟨Nat.le_of_ble_eq_true rfl, Nat.le_of_ble_eq_true rfl⟩ ⟨Nat.zero_le _, Nat.zero_le _⟩ rfl (Nat.le_of_ble_eq_true rfl) dX2_exactShareIn_3) (fun r3 v4 H locs hI hp2 => ?_)
    rw [show nI j * nI 3 + nI 1 - nI 1 = nI (3 * j) from ix3 j 0, el_lt (by omega) (by decide)] at hp2
    subst hp2
    refine tI (hR.2 j hj).2.1 ?_
    refine lv_istore_n (lv' := [(3, .int (nI ((f j).2.1))), (0, .ref (eA E 5)), (1, .ref (eA E (10 + 3 * b))), (2, .int (nI j))]) hx hy dX2_exactShareIn_6 rfl hl (by decide) rfl (fun ls hl => ?_)
    refine lv_aload_n hx hy dX2_exactShareIn_7 rfl (lv_at hl 2 rfl) ?_
    refine lv_iload_n hx hy dX2_exactShareIn_8 rfl (lv_at hl 3 rfl) ?_
    refine lv_iconst (v := nI 2) hx hy dX2_exactShareIn_9 (by decide) ?_
    refine zI hI (xV F hI hl (kX0_numberOf l E (u) (b := b) hb (nI j) (nI 2)) M_X2_60 (rX0 F hI (b := b) hb) rfl ⟨Nat.le_of_ble_eq_true rfl, Nat.le_of_ble_eq_true rfl⟩ ⟨Nat.zero_le _, Nat.zero_le _⟩ rfl (Nat.le_of_ble_eq_true rfl) dX2_exactShareIn_10) (fun r6 v7 H locs hI hp5 => ?_)
    rw [show nI j * nI 3 + nI 2 - nI 1 = nI (3 * j + 1) from ix3 j 1, el_lt (by omega) (by decide)] at hp5
    subst hp5
    refine tI (hR.2 j hj).2.2.1 ?_
    refine lv_istore (lv' := [(4, .int (nI ((f j).2.2.1))), (3, .int (nI ((f j).2.1))), (0, .ref (eA E 5)), (1, .ref (eA E (10 + 3 * b))), (2, .int (nI j))]) hx hy dX2_exactShareIn_13 hl (by decide) rfl (fun ls hl => ?_)
    refine lv_aload_n hx hy dX2_exactShareIn_15 rfl (lv_at hl 2 rfl) ?_
    refine lv_iload_n hx hy dX2_exactShareIn_16 rfl (lv_at hl 1 rfl) ?_
    refine zI hI (xV F hI hl (kX2_exactShareOf l E (u) (nI ((f j).2.1))) M_X2_63 (rX2 F hI) rfl ⟨Nat.le_of_ble_eq_true rfl, Nat.le_of_ble_eq_true rfl⟩ ⟨Nat.zero_le _, Nat.zero_le _⟩ rfl (Nat.le_of_ble_eq_true rfl) dX2_exactShareIn_17) (fun r9 v10 H locs hI hp8 => ?_)
    subst hp8
    refine lv_istore (lv' := [(5, .int (el 16 (u.1 3) (nI ((f j).2.1)))), (4, .int (nI ((f j).2.2.1))), (3, .int (nI ((f j).2.1))), (0, .ref (eA E 5)), (1, .ref (eA E (10 + 3 * b))), (2, .int (nI j))]) hx hy dX2_exactShareIn_20 hl (by decide) rfl (fun ls hl => ?_)
    refine lv_aload_n hx hy dX2_exactShareIn_22 rfl (lv_at hl 4 rfl) ?_
    refine lv_iload_n hx hy dX2_exactShareIn_23 rfl (lv_at hl 5 rfl) ?_
    refine zI hI (xV F hI hl (kX0_kindOf l E (u) (b := b) hb (nI j)) M_X2_66 (rX0 F hI (b := b) hb) rfl ⟨Nat.le_of_ble_eq_true rfl, Nat.le_of_ble_eq_true rfl⟩ ⟨Nat.zero_le _, Nat.zero_le _⟩ rfl (Nat.le_of_ble_eq_true rfl) dX2_exactShareIn_24) (fun r12 v13 H locs hI hp11 => ?_)
    rw [el_lt (by omega) (by decide)] at hp11
    subst hp11
    refine tI (show _ = nI 0 by rw [← hk1]; exact (hR.2 j hj).1) ?_
    refine lv_tableIn (tgt := 64) hx hy dX2_exactShareIn_27 (by decide) (by decide) (by rfl) (by decide) ?_
    refine lv_iload_n hx hy dX2_exactShareIn_64 rfl (lv_at hl 2 rfl) ?_
    refine lv_sipush (v := nI 256) hx hy dX2_exactShareIn_65 (by decide) ?_
    refine lv_imul hx hy dX2_exactShareIn_68 ?_
    refine tI (pk_mul ((f j).2.1) (256)) ?_
    exact rI hQ F (v := ()) hI dX2_exactShareIn_69 (by rw [ex_eq hok]; simp [exS, hk1])
  · have hA := hok.2.2.1 (by omega)
    have hB := hok.2.2.2.1 (by omega) (by omega)
    have xA := hX (f j).2.1 hA
    have lA := hL (f j).2.1 hA
    have xB := hX (f j).2.2.1 hB
    have lB := hL (f j).2.2.1 hB
    refine lv_aload_n hx hy dX2_exactShareIn_0 rfl (lv_at hl 1 rfl) ?_
    refine lv_iload_n hx hy dX2_exactShareIn_1 rfl (lv_at hl 2 rfl) ?_
    refine lv_iconst (v := nI 1) hx hy dX2_exactShareIn_2 (by decide) ?_
    refine zI hI (xV F hI hl (kX0_numberOf l E (u) (b := b) hb (nI j) (nI 1)) M_X2_60 (rX0 F hI (b := b) hb) rfl ⟨Nat.le_of_ble_eq_true rfl, Nat.le_of_ble_eq_true rfl⟩ ⟨Nat.zero_le _, Nat.zero_le _⟩ rfl (Nat.le_of_ble_eq_true rfl) dX2_exactShareIn_3) (fun r15 v16 H locs hI hp14 => ?_)
    rw [show nI j * nI 3 + nI 1 - nI 1 = nI (3 * j) from ix3 j 0, el_lt (by omega) (by decide)] at hp14
    subst hp14
    refine tI (hR.2 j hj).2.1 ?_
    refine lv_istore_n (lv' := [(3, .int (nI ((f j).2.1))), (0, .ref (eA E 5)), (1, .ref (eA E (10 + 3 * b))), (2, .int (nI j))]) hx hy dX2_exactShareIn_6 rfl hl (by decide) rfl (fun ls hl => ?_)
    refine lv_aload_n hx hy dX2_exactShareIn_7 rfl (lv_at hl 2 rfl) ?_
    refine lv_iload_n hx hy dX2_exactShareIn_8 rfl (lv_at hl 3 rfl) ?_
    refine lv_iconst (v := nI 2) hx hy dX2_exactShareIn_9 (by decide) ?_
    refine zI hI (xV F hI hl (kX0_numberOf l E (u) (b := b) hb (nI j) (nI 2)) M_X2_60 (rX0 F hI (b := b) hb) rfl ⟨Nat.le_of_ble_eq_true rfl, Nat.le_of_ble_eq_true rfl⟩ ⟨Nat.zero_le _, Nat.zero_le _⟩ rfl (Nat.le_of_ble_eq_true rfl) dX2_exactShareIn_10) (fun r18 v19 H locs hI hp17 => ?_)
    rw [show nI j * nI 3 + nI 2 - nI 1 = nI (3 * j + 1) from ix3 j 1, el_lt (by omega) (by decide)] at hp17
    subst hp17
    refine tI (hR.2 j hj).2.2.1 ?_
    refine lv_istore (lv' := [(4, .int (nI ((f j).2.2.1))), (3, .int (nI ((f j).2.1))), (0, .ref (eA E 5)), (1, .ref (eA E (10 + 3 * b))), (2, .int (nI j))]) hx hy dX2_exactShareIn_13 hl (by decide) rfl (fun ls hl => ?_)
    refine lv_aload_n hx hy dX2_exactShareIn_15 rfl (lv_at hl 2 rfl) ?_
    refine lv_iload_n hx hy dX2_exactShareIn_16 rfl (lv_at hl 1 rfl) ?_
    refine zI hI (xV F hI hl (kX2_exactShareOf l E (u) (nI ((f j).2.1))) M_X2_63 (rX2 F hI) rfl ⟨Nat.le_of_ble_eq_true rfl, Nat.le_of_ble_eq_true rfl⟩ ⟨Nat.zero_le _, Nat.zero_le _⟩ rfl (Nat.le_of_ble_eq_true rfl) dX2_exactShareIn_17) (fun r21 v22 H locs hI hp20 => ?_)
    rw [el_lt (by omega) (by decide)] at hp20
    subst hp20
    refine tI xA ?_
    refine lv_istore (lv' := [(5, .int (nI (ex f (f j).2.1))), (4, .int (nI ((f j).2.2.1))), (3, .int (nI ((f j).2.1))), (0, .ref (eA E 5)), (1, .ref (eA E (10 + 3 * b))), (2, .int (nI j))]) hx hy dX2_exactShareIn_20 hl (by decide) rfl (fun ls hl => ?_)
    refine lv_aload_n hx hy dX2_exactShareIn_22 rfl (lv_at hl 4 rfl) ?_
    refine lv_iload_n hx hy dX2_exactShareIn_23 rfl (lv_at hl 5 rfl) ?_
    refine zI hI (xV F hI hl (kX0_kindOf l E (u) (b := b) hb (nI j)) M_X2_66 (rX0 F hI (b := b) hb) rfl ⟨Nat.le_of_ble_eq_true rfl, Nat.le_of_ble_eq_true rfl⟩ ⟨Nat.zero_le _, Nat.zero_le _⟩ rfl (Nat.le_of_ble_eq_true rfl) dX2_exactShareIn_24) (fun r24 v25 H locs hI hp23 => ?_)
    rw [el_lt (by omega) (by decide)] at hp23
    subst hp23
    refine tI (show _ = nI 1 by rw [← hk1]; exact (hR.2 j hj).1) ?_
    refine lv_tableIn (tgt := 70) hx hy dX2_exactShareIn_27 (by decide) (by decide) (by rfl) (by decide) ?_
    refine lv_iload hx hy dX2_exactShareIn_70 (lv_at hl 0 rfl) ?_
    refine lv_i2l (v := lN (ex f (f j).2.1)) hx hy dX2_exactShareIn_72 (nI_l (by omega)) ?_
    refine lv_aload_n hx hy dX2_exactShareIn_73 rfl (lv_at hl 3 rfl) ?_
    refine lv_iload hx hy dX2_exactShareIn_74 (lv_at hl 1 rfl) ?_
    refine zI hI (xV F hI hl (kX2_exactShareOf l E (u) (nI ((f j).2.2.1))) M_X2_63 (rX2 F hI) rfl ⟨Nat.le_of_ble_eq_true rfl, Nat.le_of_ble_eq_true rfl⟩ ⟨Nat.zero_le _, Nat.zero_le _⟩ rfl (Nat.le_of_ble_eq_true rfl) dX2_exactShareIn_76) (fun r27 v28 H locs hI hp26 => ?_)
    rw [el_lt (by omega) (by decide)] at hp26
    subst hp26
    refine tI xB ?_
    refine lv_i2l (v := lN (ex f (f j).2.2.1)) hx hy dX2_exactShareIn_79 (nI_l (by omega)) ?_
    refine zI hI (xS F hI hl (kX2_productOf l E (u) (ex f (f j).2.1) (ex f (f j).2.2.1) (by omega) (by omega)) M_X2_69 rfl ⟨Nat.le_of_ble_eq_true rfl, Nat.le_of_ble_eq_true rfl⟩ ⟨Nat.zero_le _, Nat.zero_le _⟩ rfl (Nat.le_of_ble_eq_true rfl) dX2_exactShareIn_80) (fun r30 v31 H locs hI hp29 => ?_)
    subst hp29
    exact rI hQ F (v := ()) hI dX2_exactShareIn_83 (by rw [ex_eq hok]; simp [exS, hk1])
  · have hA := hok.2.2.1 (by omega)
    have hB := hok.2.2.2.1 (by omega) (by omega)
    have xA := hX (f j).2.1 hA
    have lA := hL (f j).2.1 hA
    have xB := hX (f j).2.2.1 hB
    have lB := hL (f j).2.2.1 hB
    have p1 := pq_le (b := ex f (f j).2.2.1) lA
    have p2 := pq_le2 (a := ex f (f j).2.1) lB
    refine lv_aload_n hx hy dX2_exactShareIn_0 rfl (lv_at hl 1 rfl) ?_
    refine lv_iload_n hx hy dX2_exactShareIn_1 rfl (lv_at hl 2 rfl) ?_
    refine lv_iconst (v := nI 1) hx hy dX2_exactShareIn_2 (by decide) ?_
    refine zI hI (xV F hI hl (kX0_numberOf l E (u) (b := b) hb (nI j) (nI 1)) M_X2_60 (rX0 F hI (b := b) hb) rfl ⟨Nat.le_of_ble_eq_true rfl, Nat.le_of_ble_eq_true rfl⟩ ⟨Nat.zero_le _, Nat.zero_le _⟩ rfl (Nat.le_of_ble_eq_true rfl) dX2_exactShareIn_3) (fun r33 v34 H locs hI hp32 => ?_)
    rw [show nI j * nI 3 + nI 1 - nI 1 = nI (3 * j) from ix3 j 0, el_lt (by omega) (by decide)] at hp32
    subst hp32
    refine tI (hR.2 j hj).2.1 ?_
    refine lv_istore_n (lv' := [(3, .int (nI ((f j).2.1))), (0, .ref (eA E 5)), (1, .ref (eA E (10 + 3 * b))), (2, .int (nI j))]) hx hy dX2_exactShareIn_6 rfl hl (by decide) rfl (fun ls hl => ?_)
    refine lv_aload_n hx hy dX2_exactShareIn_7 rfl (lv_at hl 2 rfl) ?_
    refine lv_iload_n hx hy dX2_exactShareIn_8 rfl (lv_at hl 3 rfl) ?_
    refine lv_iconst (v := nI 2) hx hy dX2_exactShareIn_9 (by decide) ?_
    refine zI hI (xV F hI hl (kX0_numberOf l E (u) (b := b) hb (nI j) (nI 2)) M_X2_60 (rX0 F hI (b := b) hb) rfl ⟨Nat.le_of_ble_eq_true rfl, Nat.le_of_ble_eq_true rfl⟩ ⟨Nat.zero_le _, Nat.zero_le _⟩ rfl (Nat.le_of_ble_eq_true rfl) dX2_exactShareIn_10) (fun r36 v37 H locs hI hp35 => ?_)
    rw [show nI j * nI 3 + nI 2 - nI 1 = nI (3 * j + 1) from ix3 j 1, el_lt (by omega) (by decide)] at hp35
    subst hp35
    refine tI (hR.2 j hj).2.2.1 ?_
    refine lv_istore (lv' := [(4, .int (nI ((f j).2.2.1))), (3, .int (nI ((f j).2.1))), (0, .ref (eA E 5)), (1, .ref (eA E (10 + 3 * b))), (2, .int (nI j))]) hx hy dX2_exactShareIn_13 hl (by decide) rfl (fun ls hl => ?_)
    refine lv_aload_n hx hy dX2_exactShareIn_15 rfl (lv_at hl 2 rfl) ?_
    refine lv_iload_n hx hy dX2_exactShareIn_16 rfl (lv_at hl 1 rfl) ?_
    refine zI hI (xV F hI hl (kX2_exactShareOf l E (u) (nI ((f j).2.1))) M_X2_63 (rX2 F hI) rfl ⟨Nat.le_of_ble_eq_true rfl, Nat.le_of_ble_eq_true rfl⟩ ⟨Nat.zero_le _, Nat.zero_le _⟩ rfl (Nat.le_of_ble_eq_true rfl) dX2_exactShareIn_17) (fun r39 v40 H locs hI hp38 => ?_)
    rw [el_lt (by omega) (by decide)] at hp38
    subst hp38
    refine tI xA ?_
    refine lv_istore (lv' := [(5, .int (nI (ex f (f j).2.1))), (4, .int (nI ((f j).2.2.1))), (3, .int (nI ((f j).2.1))), (0, .ref (eA E 5)), (1, .ref (eA E (10 + 3 * b))), (2, .int (nI j))]) hx hy dX2_exactShareIn_20 hl (by decide) rfl (fun ls hl => ?_)
    refine lv_aload_n hx hy dX2_exactShareIn_22 rfl (lv_at hl 4 rfl) ?_
    refine lv_iload_n hx hy dX2_exactShareIn_23 rfl (lv_at hl 5 rfl) ?_
    refine zI hI (xV F hI hl (kX0_kindOf l E (u) (b := b) hb (nI j)) M_X2_66 (rX0 F hI (b := b) hb) rfl ⟨Nat.le_of_ble_eq_true rfl, Nat.le_of_ble_eq_true rfl⟩ ⟨Nat.zero_le _, Nat.zero_le _⟩ rfl (Nat.le_of_ble_eq_true rfl) dX2_exactShareIn_24) (fun r42 v43 H locs hI hp41 => ?_)
    rw [el_lt (by omega) (by decide)] at hp41
    subst hp41
    refine tI (show _ = nI 2 by rw [← hk1]; exact (hR.2 j hj).1) ?_
    refine lv_tableIn (tgt := 84) hx hy dX2_exactShareIn_27 (by decide) (by decide) (by rfl) (by decide) ?_
    refine lv_iload hx hy dX2_exactShareIn_84 (lv_at hl 0 rfl) ?_
    refine lv_aload_n hx hy dX2_exactShareIn_86 rfl (lv_at hl 3 rfl) ?_
    refine lv_iload hx hy dX2_exactShareIn_87 (lv_at hl 1 rfl) ?_
    refine zI hI (xV F hI hl (kX2_exactShareOf l E (u) (nI ((f j).2.2.1))) M_X2_63 (rX2 F hI) rfl ⟨Nat.le_of_ble_eq_true rfl, Nat.le_of_ble_eq_true rfl⟩ ⟨Nat.zero_le _, Nat.zero_le _⟩ rfl (Nat.le_of_ble_eq_true rfl) dX2_exactShareIn_89) (fun r45 v46 H locs hI hp44 => ?_)
    rw [el_lt (by omega) (by decide)] at hp44
    subst hp44
    refine tI xB ?_
    refine lv_iadd hx hy dX2_exactShareIn_92 ?_
    refine tI (nI_add (ex f (f j).2.1) (ex f (f j).2.2.1)) ?_
    refine lv_iload hx hy dX2_exactShareIn_93 (lv_at hl 0 rfl) ?_
    refine lv_i2l (v := lN (ex f (f j).2.1)) hx hy dX2_exactShareIn_95 (nI_l (by omega)) ?_
    refine lv_aload_n hx hy dX2_exactShareIn_96 rfl (lv_at hl 3 rfl) ?_
    refine lv_iload hx hy dX2_exactShareIn_97 (lv_at hl 1 rfl) ?_
    refine zI hI (xV F hI hl (kX2_exactShareOf l E (u) (nI ((f j).2.2.1))) M_X2_63 (rX2 F hI) rfl ⟨Nat.le_of_ble_eq_true rfl, Nat.le_of_ble_eq_true rfl⟩ ⟨Nat.zero_le _, Nat.zero_le _⟩ rfl (Nat.le_of_ble_eq_true rfl) dX2_exactShareIn_99) (fun r48 v49 H locs hI hp47 => ?_)
    rw [el_lt (by omega) (by decide)] at hp47
    subst hp47
    refine tI xB ?_
    refine lv_i2l (v := lN (ex f (f j).2.2.1)) hx hy dX2_exactShareIn_102 (nI_l (by omega)) ?_
    refine zI hI (xS F hI hl (kX2_productOf l E (u) (ex f (f j).2.1) (ex f (f j).2.2.1) (by omega) (by omega)) M_X2_69 rfl ⟨Nat.le_of_ble_eq_true rfl, Nat.le_of_ble_eq_true rfl⟩ ⟨Nat.zero_le _, Nat.zero_le _⟩ rfl (Nat.le_of_ble_eq_true rfl) dX2_exactShareIn_103) (fun r51 v52 H locs hI hp50 => ?_)
    subst hp50
    refine lv_isub hx hy dX2_exactShareIn_106 ?_
    refine tI (pk_sub (a := ex f (f j).2.1 + ex f (f j).2.2.1) (b := (ex f (f j).2.1) * (ex f (f j).2.2.1) / 65536) (by omega)) ?_
    exact rI hQ F (v := ()) hI dX2_exactShareIn_107 (by rw [ex_eq hok]; simp [exS, hk1])
  · have hA := hok.2.2.1 (by omega)
    have hB := hok.2.2.2.1 (by omega) (by omega)
    have xA := hX (f j).2.1 hA
    have lA := hL (f j).2.1 hA
    have xB := hX (f j).2.2.1 hB
    have lB := hL (f j).2.2.1 hB
    have p1 := pq_le (b := ex f (f j).2.2.1) lA
    have p2 := pq_le2 (a := ex f (f j).2.1) lB
    refine lv_aload_n hx hy dX2_exactShareIn_0 rfl (lv_at hl 1 rfl) ?_
    refine lv_iload_n hx hy dX2_exactShareIn_1 rfl (lv_at hl 2 rfl) ?_
    refine lv_iconst (v := nI 1) hx hy dX2_exactShareIn_2 (by decide) ?_
    refine zI hI (xV F hI hl (kX0_numberOf l E (u) (b := b) hb (nI j) (nI 1)) M_X2_60 (rX0 F hI (b := b) hb) rfl ⟨Nat.le_of_ble_eq_true rfl, Nat.le_of_ble_eq_true rfl⟩ ⟨Nat.zero_le _, Nat.zero_le _⟩ rfl (Nat.le_of_ble_eq_true rfl) dX2_exactShareIn_3) (fun r54 v55 H locs hI hp53 => ?_)
    rw [show nI j * nI 3 + nI 1 - nI 1 = nI (3 * j) from ix3 j 0, el_lt (by omega) (by decide)] at hp53
    subst hp53
    refine tI (hR.2 j hj).2.1 ?_
    refine lv_istore_n (lv' := [(3, .int (nI ((f j).2.1))), (0, .ref (eA E 5)), (1, .ref (eA E (10 + 3 * b))), (2, .int (nI j))]) hx hy dX2_exactShareIn_6 rfl hl (by decide) rfl (fun ls hl => ?_)
    refine lv_aload_n hx hy dX2_exactShareIn_7 rfl (lv_at hl 2 rfl) ?_
    refine lv_iload_n hx hy dX2_exactShareIn_8 rfl (lv_at hl 3 rfl) ?_
    refine lv_iconst (v := nI 2) hx hy dX2_exactShareIn_9 (by decide) ?_
    refine zI hI (xV F hI hl (kX0_numberOf l E (u) (b := b) hb (nI j) (nI 2)) M_X2_60 (rX0 F hI (b := b) hb) rfl ⟨Nat.le_of_ble_eq_true rfl, Nat.le_of_ble_eq_true rfl⟩ ⟨Nat.zero_le _, Nat.zero_le _⟩ rfl (Nat.le_of_ble_eq_true rfl) dX2_exactShareIn_10) (fun r57 v58 H locs hI hp56 => ?_)
    rw [show nI j * nI 3 + nI 2 - nI 1 = nI (3 * j + 1) from ix3 j 1, el_lt (by omega) (by decide)] at hp56
    subst hp56
    refine tI (hR.2 j hj).2.2.1 ?_
    refine lv_istore (lv' := [(4, .int (nI ((f j).2.2.1))), (3, .int (nI ((f j).2.1))), (0, .ref (eA E 5)), (1, .ref (eA E (10 + 3 * b))), (2, .int (nI j))]) hx hy dX2_exactShareIn_13 hl (by decide) rfl (fun ls hl => ?_)
    refine lv_aload_n hx hy dX2_exactShareIn_15 rfl (lv_at hl 2 rfl) ?_
    refine lv_iload_n hx hy dX2_exactShareIn_16 rfl (lv_at hl 1 rfl) ?_
    refine zI hI (xV F hI hl (kX2_exactShareOf l E (u) (nI ((f j).2.1))) M_X2_63 (rX2 F hI) rfl ⟨Nat.le_of_ble_eq_true rfl, Nat.le_of_ble_eq_true rfl⟩ ⟨Nat.zero_le _, Nat.zero_le _⟩ rfl (Nat.le_of_ble_eq_true rfl) dX2_exactShareIn_17) (fun r60 v61 H locs hI hp59 => ?_)
    rw [el_lt (by omega) (by decide)] at hp59
    subst hp59
    refine tI xA ?_
    refine lv_istore (lv' := [(5, .int (nI (ex f (f j).2.1))), (4, .int (nI ((f j).2.2.1))), (3, .int (nI ((f j).2.1))), (0, .ref (eA E 5)), (1, .ref (eA E (10 + 3 * b))), (2, .int (nI j))]) hx hy dX2_exactShareIn_20 hl (by decide) rfl (fun ls hl => ?_)
    refine lv_aload_n hx hy dX2_exactShareIn_22 rfl (lv_at hl 4 rfl) ?_
    refine lv_iload_n hx hy dX2_exactShareIn_23 rfl (lv_at hl 5 rfl) ?_
    refine zI hI (xV F hI hl (kX0_kindOf l E (u) (b := b) hb (nI j)) M_X2_66 (rX0 F hI (b := b) hb) rfl ⟨Nat.le_of_ble_eq_true rfl, Nat.le_of_ble_eq_true rfl⟩ ⟨Nat.zero_le _, Nat.zero_le _⟩ rfl (Nat.le_of_ble_eq_true rfl) dX2_exactShareIn_24) (fun r63 v64 H locs hI hp62 => ?_)
    rw [el_lt (by omega) (by decide)] at hp62
    subst hp62
    refine tI (show _ = nI 3 by rw [← hk1]; exact (hR.2 j hj).1) ?_
    refine lv_tableIn (tgt := 108) hx hy dX2_exactShareIn_27 (by decide) (by decide) (by rfl) (by decide) ?_
    refine lv_iload hx hy dX2_exactShareIn_108 (lv_at hl 0 rfl) ?_
    refine lv_aload_n hx hy dX2_exactShareIn_110 rfl (lv_at hl 3 rfl) ?_
    refine lv_iload hx hy dX2_exactShareIn_111 (lv_at hl 1 rfl) ?_
    refine zI hI (xV F hI hl (kX2_exactShareOf l E (u) (nI ((f j).2.2.1))) M_X2_63 (rX2 F hI) rfl ⟨Nat.le_of_ble_eq_true rfl, Nat.le_of_ble_eq_true rfl⟩ ⟨Nat.zero_le _, Nat.zero_le _⟩ rfl (Nat.le_of_ble_eq_true rfl) dX2_exactShareIn_113) (fun r66 v67 H locs hI hp65 => ?_)
    rw [el_lt (by omega) (by decide)] at hp65
    subst hp65
    refine tI xB ?_
    refine lv_iadd hx hy dX2_exactShareIn_116 ?_
    refine tI (nI_add (ex f (f j).2.1) (ex f (f j).2.2.1)) ?_
    refine lv_iconst (v := nI 2) hx hy dX2_exactShareIn_117 (by decide) ?_
    refine lv_iload hx hy dX2_exactShareIn_118 (lv_at hl 0 rfl) ?_
    refine lv_i2l (v := lN (ex f (f j).2.1)) hx hy dX2_exactShareIn_120 (nI_l (by omega)) ?_
    refine lv_aload_n hx hy dX2_exactShareIn_121 rfl (lv_at hl 3 rfl) ?_
    refine lv_iload hx hy dX2_exactShareIn_122 (lv_at hl 1 rfl) ?_
    refine zI hI (xV F hI hl (kX2_exactShareOf l E (u) (nI ((f j).2.2.1))) M_X2_63 (rX2 F hI) rfl ⟨Nat.le_of_ble_eq_true rfl, Nat.le_of_ble_eq_true rfl⟩ ⟨Nat.zero_le _, Nat.zero_le _⟩ rfl (Nat.le_of_ble_eq_true rfl) dX2_exactShareIn_124) (fun r69 v70 H locs hI hp68 => ?_)
    rw [el_lt (by omega) (by decide)] at hp68
    subst hp68
    refine tI xB ?_
    refine lv_i2l (v := lN (ex f (f j).2.2.1)) hx hy dX2_exactShareIn_127 (nI_l (by omega)) ?_
    refine zI hI (xS F hI hl (kX2_productOf l E (u) (ex f (f j).2.1) (ex f (f j).2.2.1) (by omega) (by omega)) M_X2_69 rfl ⟨Nat.le_of_ble_eq_true rfl, Nat.le_of_ble_eq_true rfl⟩ ⟨Nat.zero_le _, Nat.zero_le _⟩ rfl (Nat.le_of_ble_eq_true rfl) dX2_exactShareIn_128) (fun r72 v73 H locs hI hp71 => ?_)
    subst hp71
    refine lv_imul hx hy dX2_exactShareIn_131 ?_
    refine tI (pk_mul (2) ((ex f (f j).2.1) * (ex f (f j).2.2.1) / 65536)) ?_
    refine lv_isub hx hy dX2_exactShareIn_132 ?_
    refine tI (pk_sub (a := ex f (f j).2.1 + ex f (f j).2.2.1) (b := 2 * ((ex f (f j).2.1) * (ex f (f j).2.2.1) / 65536)) (by omega)) ?_
    exact rI hQ F (v := ()) hI dX2_exactShareIn_133 (by rw [ex_eq hok]; simp [exS, hk1])
  · have hA := hok.2.2.1 (by omega)
    have hB := hok.2.2.2.1 (by omega) (by omega)
    have hC := hok.2.2.2.2.1 hk1
    have xA := hX (f j).2.1 hA
    have lA := hL (f j).2.1 hA
    have xB := hX (f j).2.2.1 hB
    have lB := hL (f j).2.2.1 hB
    have xC := hX (f j).2.2.2 hC
    have lC := hL (f j).2.2.2 hC
    refine lv_aload_n hx hy dX2_exactShareIn_0 rfl (lv_at hl 1 rfl) ?_
    refine lv_iload_n hx hy dX2_exactShareIn_1 rfl (lv_at hl 2 rfl) ?_
    refine lv_iconst (v := nI 1) hx hy dX2_exactShareIn_2 (by decide) ?_
    refine zI hI (xV F hI hl (kX0_numberOf l E (u) (b := b) hb (nI j) (nI 1)) M_X2_60 (rX0 F hI (b := b) hb) rfl ⟨Nat.le_of_ble_eq_true rfl, Nat.le_of_ble_eq_true rfl⟩ ⟨Nat.zero_le _, Nat.zero_le _⟩ rfl (Nat.le_of_ble_eq_true rfl) dX2_exactShareIn_3) (fun r75 v76 H locs hI hp74 => ?_)
    rw [show nI j * nI 3 + nI 1 - nI 1 = nI (3 * j) from ix3 j 0, el_lt (by omega) (by decide)] at hp74
    subst hp74
    refine tI (hR.2 j hj).2.1 ?_
    refine lv_istore_n (lv' := [(3, .int (nI ((f j).2.1))), (0, .ref (eA E 5)), (1, .ref (eA E (10 + 3 * b))), (2, .int (nI j))]) hx hy dX2_exactShareIn_6 rfl hl (by decide) rfl (fun ls hl => ?_)
    refine lv_aload_n hx hy dX2_exactShareIn_7 rfl (lv_at hl 2 rfl) ?_
    refine lv_iload_n hx hy dX2_exactShareIn_8 rfl (lv_at hl 3 rfl) ?_
    refine lv_iconst (v := nI 2) hx hy dX2_exactShareIn_9 (by decide) ?_
    refine zI hI (xV F hI hl (kX0_numberOf l E (u) (b := b) hb (nI j) (nI 2)) M_X2_60 (rX0 F hI (b := b) hb) rfl ⟨Nat.le_of_ble_eq_true rfl, Nat.le_of_ble_eq_true rfl⟩ ⟨Nat.zero_le _, Nat.zero_le _⟩ rfl (Nat.le_of_ble_eq_true rfl) dX2_exactShareIn_10) (fun r78 v79 H locs hI hp77 => ?_)
    rw [show nI j * nI 3 + nI 2 - nI 1 = nI (3 * j + 1) from ix3 j 1, el_lt (by omega) (by decide)] at hp77
    subst hp77
    refine tI (hR.2 j hj).2.2.1 ?_
    refine lv_istore (lv' := [(4, .int (nI ((f j).2.2.1))), (3, .int (nI ((f j).2.1))), (0, .ref (eA E 5)), (1, .ref (eA E (10 + 3 * b))), (2, .int (nI j))]) hx hy dX2_exactShareIn_13 hl (by decide) rfl (fun ls hl => ?_)
    refine lv_aload_n hx hy dX2_exactShareIn_15 rfl (lv_at hl 2 rfl) ?_
    refine lv_iload_n hx hy dX2_exactShareIn_16 rfl (lv_at hl 1 rfl) ?_
    refine zI hI (xV F hI hl (kX2_exactShareOf l E (u) (nI ((f j).2.1))) M_X2_63 (rX2 F hI) rfl ⟨Nat.le_of_ble_eq_true rfl, Nat.le_of_ble_eq_true rfl⟩ ⟨Nat.zero_le _, Nat.zero_le _⟩ rfl (Nat.le_of_ble_eq_true rfl) dX2_exactShareIn_17) (fun r81 v82 H locs hI hp80 => ?_)
    rw [el_lt (by omega) (by decide)] at hp80
    subst hp80
    refine tI xA ?_
    refine lv_istore (lv' := [(5, .int (nI (ex f (f j).2.1))), (4, .int (nI ((f j).2.2.1))), (3, .int (nI ((f j).2.1))), (0, .ref (eA E 5)), (1, .ref (eA E (10 + 3 * b))), (2, .int (nI j))]) hx hy dX2_exactShareIn_20 hl (by decide) rfl (fun ls hl => ?_)
    refine lv_aload_n hx hy dX2_exactShareIn_22 rfl (lv_at hl 4 rfl) ?_
    refine lv_iload_n hx hy dX2_exactShareIn_23 rfl (lv_at hl 5 rfl) ?_
    refine zI hI (xV F hI hl (kX0_kindOf l E (u) (b := b) hb (nI j)) M_X2_66 (rX0 F hI (b := b) hb) rfl ⟨Nat.le_of_ble_eq_true rfl, Nat.le_of_ble_eq_true rfl⟩ ⟨Nat.zero_le _, Nat.zero_le _⟩ rfl (Nat.le_of_ble_eq_true rfl) dX2_exactShareIn_24) (fun r84 v85 H locs hI hp83 => ?_)
    rw [el_lt (by omega) (by decide)] at hp83
    subst hp83
    refine tI (show _ = nI 4 by rw [← hk1]; exact (hR.2 j hj).1) ?_
    refine lv_tableIn (tgt := 134) hx hy dX2_exactShareIn_27 (by decide) (by decide) (by rfl) (by decide) ?_
    refine lv_iload hx hy dX2_exactShareIn_134 (lv_at hl 0 rfl) ?_
    refine lv_i2l (v := lN (ex f (f j).2.1)) hx hy dX2_exactShareIn_136 (nI_l (by omega)) ?_
    refine lv_aload_n hx hy dX2_exactShareIn_137 rfl (lv_at hl 3 rfl) ?_
    refine lv_iload hx hy dX2_exactShareIn_138 (lv_at hl 1 rfl) ?_
    refine zI hI (xV F hI hl (kX2_exactShareOf l E (u) (nI ((f j).2.2.1))) M_X2_63 (rX2 F hI) rfl ⟨Nat.le_of_ble_eq_true rfl, Nat.le_of_ble_eq_true rfl⟩ ⟨Nat.zero_le _, Nat.zero_le _⟩ rfl (Nat.le_of_ble_eq_true rfl) dX2_exactShareIn_140) (fun r87 v88 H locs hI hp86 => ?_)
    rw [el_lt (by omega) (by decide)] at hp86
    subst hp86
    refine tI xB ?_
    refine lv_i2l (v := lN (ex f (f j).2.2.1)) hx hy dX2_exactShareIn_143 (nI_l (by omega)) ?_
    refine lv_aload_n hx hy dX2_exactShareIn_144 rfl (lv_at hl 3 rfl) ?_
    refine lv_aload_n hx hy dX2_exactShareIn_145 rfl (lv_at hl 4 rfl) ?_
    refine lv_iload_n hx hy dX2_exactShareIn_146 rfl (lv_at hl 5 rfl) ?_
    refine lv_iconst (v := nI 3) hx hy dX2_exactShareIn_147 (by decide) ?_
    refine zI hI (xV F hI hl (kX0_numberOf l E (u) (b := b) hb (nI j) (nI 3)) M_X2_60 (rX0 F hI (b := b) hb) rfl ⟨Nat.le_of_ble_eq_true rfl, Nat.le_of_ble_eq_true rfl⟩ ⟨Nat.zero_le _, Nat.zero_le _⟩ rfl (Nat.le_of_ble_eq_true rfl) dX2_exactShareIn_148) (fun r90 v91 H locs hI hp89 => ?_)
    rw [show nI j * nI 3 + nI 3 - nI 1 = nI (3 * j + 2) from ix3 j 2, el_lt (by omega) (by decide)] at hp89
    subst hp89
    refine tI (hR.2 j hj).2.2.2 ?_
    refine zI hI (xV F hI hl (kX2_exactShareOf l E (u) (nI ((f j).2.2.2))) M_X2_63 (rX2 F hI) rfl ⟨Nat.le_of_ble_eq_true rfl, Nat.le_of_ble_eq_true rfl⟩ ⟨Nat.zero_le _, Nat.zero_le _⟩ rfl (Nat.le_of_ble_eq_true rfl) dX2_exactShareIn_151) (fun r93 v94 H locs hI hp92 => ?_)
    rw [el_lt (by omega) (by decide)] at hp92
    subst hp92
    refine tI xC ?_
    refine lv_i2l (v := lN (ex f (f j).2.2.2)) hx hy dX2_exactShareIn_154 (nI_l (by omega)) ?_
    refine zI hI (xS F hI hl (kX2_mixOf l E (u) (ex f (f j).2.1) (ex f (f j).2.2.1) (ex f (f j).2.2.2) (by omega) (by omega) (by omega)) M_X2_73 rfl ⟨Nat.le_of_ble_eq_true rfl, Nat.le_of_ble_eq_true rfl⟩ ⟨Nat.zero_le _, Nat.zero_le _⟩ rfl (Nat.le_of_ble_eq_true rfl) dX2_exactShareIn_155) (fun r96 v97 H locs hI hp95 => ?_)
    subst hp95
    exact rI hQ F (v := ()) hI dX2_exactShareIn_158 (by rw [ex_eq hok]; simp [exS, hk1])
  · have hA := hok.2.2.1 (by omega)
    have xA := hX (f j).2.1 hA
    have lA := hL (f j).2.1 hA
    refine lv_aload_n hx hy dX2_exactShareIn_0 rfl (lv_at hl 1 rfl) ?_
    refine lv_iload_n hx hy dX2_exactShareIn_1 rfl (lv_at hl 2 rfl) ?_
    refine lv_iconst (v := nI 1) hx hy dX2_exactShareIn_2 (by decide) ?_
    refine zI hI (xV F hI hl (kX0_numberOf l E (u) (b := b) hb (nI j) (nI 1)) M_X2_60 (rX0 F hI (b := b) hb) rfl ⟨Nat.le_of_ble_eq_true rfl, Nat.le_of_ble_eq_true rfl⟩ ⟨Nat.zero_le _, Nat.zero_le _⟩ rfl (Nat.le_of_ble_eq_true rfl) dX2_exactShareIn_3) (fun r99 v100 H locs hI hp98 => ?_)
    rw [show nI j * nI 3 + nI 1 - nI 1 = nI (3 * j) from ix3 j 0, el_lt (by omega) (by decide)] at hp98
    subst hp98
    refine tI (hR.2 j hj).2.1 ?_
    refine lv_istore_n (lv' := [(3, .int (nI ((f j).2.1))), (0, .ref (eA E 5)), (1, .ref (eA E (10 + 3 * b))), (2, .int (nI j))]) hx hy dX2_exactShareIn_6 rfl hl (by decide) rfl (fun ls hl => ?_)
    refine lv_aload_n hx hy dX2_exactShareIn_7 rfl (lv_at hl 2 rfl) ?_
    refine lv_iload_n hx hy dX2_exactShareIn_8 rfl (lv_at hl 3 rfl) ?_
    refine lv_iconst (v := nI 2) hx hy dX2_exactShareIn_9 (by decide) ?_
    refine zI hI (xV F hI hl (kX0_numberOf l E (u) (b := b) hb (nI j) (nI 2)) M_X2_60 (rX0 F hI (b := b) hb) rfl ⟨Nat.le_of_ble_eq_true rfl, Nat.le_of_ble_eq_true rfl⟩ ⟨Nat.zero_le _, Nat.zero_le _⟩ rfl (Nat.le_of_ble_eq_true rfl) dX2_exactShareIn_10) (fun r102 v103 H locs hI hp101 => ?_)
    rw [show nI j * nI 3 + nI 2 - nI 1 = nI (3 * j + 1) from ix3 j 1, el_lt (by omega) (by decide)] at hp101
    subst hp101
    refine tI (hR.2 j hj).2.2.1 ?_
    refine lv_istore (lv' := [(4, .int (nI ((f j).2.2.1))), (3, .int (nI ((f j).2.1))), (0, .ref (eA E 5)), (1, .ref (eA E (10 + 3 * b))), (2, .int (nI j))]) hx hy dX2_exactShareIn_13 hl (by decide) rfl (fun ls hl => ?_)
    refine lv_aload_n hx hy dX2_exactShareIn_15 rfl (lv_at hl 2 rfl) ?_
    refine lv_iload_n hx hy dX2_exactShareIn_16 rfl (lv_at hl 1 rfl) ?_
    refine zI hI (xV F hI hl (kX2_exactShareOf l E (u) (nI ((f j).2.1))) M_X2_63 (rX2 F hI) rfl ⟨Nat.le_of_ble_eq_true rfl, Nat.le_of_ble_eq_true rfl⟩ ⟨Nat.zero_le _, Nat.zero_le _⟩ rfl (Nat.le_of_ble_eq_true rfl) dX2_exactShareIn_17) (fun r105 v106 H locs hI hp104 => ?_)
    rw [el_lt (by omega) (by decide)] at hp104
    subst hp104
    refine tI xA ?_
    refine lv_istore (lv' := [(5, .int (nI (ex f (f j).2.1))), (4, .int (nI ((f j).2.2.1))), (3, .int (nI ((f j).2.1))), (0, .ref (eA E 5)), (1, .ref (eA E (10 + 3 * b))), (2, .int (nI j))]) hx hy dX2_exactShareIn_20 hl (by decide) rfl (fun ls hl => ?_)
    refine lv_aload_n hx hy dX2_exactShareIn_22 rfl (lv_at hl 4 rfl) ?_
    refine lv_iload_n hx hy dX2_exactShareIn_23 rfl (lv_at hl 5 rfl) ?_
    refine zI hI (xV F hI hl (kX0_kindOf l E (u) (b := b) hb (nI j)) M_X2_66 (rX0 F hI (b := b) hb) rfl ⟨Nat.le_of_ble_eq_true rfl, Nat.le_of_ble_eq_true rfl⟩ ⟨Nat.zero_le _, Nat.zero_le _⟩ rfl (Nat.le_of_ble_eq_true rfl) dX2_exactShareIn_24) (fun r108 v109 H locs hI hp107 => ?_)
    rw [el_lt (by omega) (by decide)] at hp107
    subst hp107
    refine tI (show _ = nI 5 by rw [← hk1]; exact (hR.2 j hj).1) ?_
    refine lv_tableIn (tgt := 159) hx hy dX2_exactShareIn_27 (by decide) (by decide) (by rfl) (by decide) ?_
    refine zc F K_X2_77 dX2_exactShareIn_159 ?_
    refine tI (show _ = nI 65536 from rfl) ?_
    refine lv_iload hx hy dX2_exactShareIn_161 (lv_at hl 0 rfl) ?_
    refine lv_isub hx hy dX2_exactShareIn_163 ?_
    refine tI (pk_sub (a := 65536) (b := ex f (f j).2.1) (by omega)) ?_
    exact rI hQ F (v := ()) hI dX2_exactShareIn_164 (by rw [ex_eq hok]; simp [exS, hk1])
  · have hA := hok.2.2.1 (by omega)
    have hD := hok.2.2.2.2.2.1 hk1
    have xA := hX (f j).2.1 hA
    have lA := hL (f j).2.1 hA
    refine lv_aload_n hx hy dX2_exactShareIn_0 rfl (lv_at hl 1 rfl) ?_
    refine lv_iload_n hx hy dX2_exactShareIn_1 rfl (lv_at hl 2 rfl) ?_
    refine lv_iconst (v := nI 1) hx hy dX2_exactShareIn_2 (by decide) ?_
    refine zI hI (xV F hI hl (kX0_numberOf l E (u) (b := b) hb (nI j) (nI 1)) M_X2_60 (rX0 F hI (b := b) hb) rfl ⟨Nat.le_of_ble_eq_true rfl, Nat.le_of_ble_eq_true rfl⟩ ⟨Nat.zero_le _, Nat.zero_le _⟩ rfl (Nat.le_of_ble_eq_true rfl) dX2_exactShareIn_3) (fun r111 v112 H locs hI hp110 => ?_)
    rw [show nI j * nI 3 + nI 1 - nI 1 = nI (3 * j) from ix3 j 0, el_lt (by omega) (by decide)] at hp110
    subst hp110
    refine tI (hR.2 j hj).2.1 ?_
    refine lv_istore_n (lv' := [(3, .int (nI ((f j).2.1))), (0, .ref (eA E 5)), (1, .ref (eA E (10 + 3 * b))), (2, .int (nI j))]) hx hy dX2_exactShareIn_6 rfl hl (by decide) rfl (fun ls hl => ?_)
    refine lv_aload_n hx hy dX2_exactShareIn_7 rfl (lv_at hl 2 rfl) ?_
    refine lv_iload_n hx hy dX2_exactShareIn_8 rfl (lv_at hl 3 rfl) ?_
    refine lv_iconst (v := nI 2) hx hy dX2_exactShareIn_9 (by decide) ?_
    refine zI hI (xV F hI hl (kX0_numberOf l E (u) (b := b) hb (nI j) (nI 2)) M_X2_60 (rX0 F hI (b := b) hb) rfl ⟨Nat.le_of_ble_eq_true rfl, Nat.le_of_ble_eq_true rfl⟩ ⟨Nat.zero_le _, Nat.zero_le _⟩ rfl (Nat.le_of_ble_eq_true rfl) dX2_exactShareIn_10) (fun r114 v115 H locs hI hp113 => ?_)
    rw [show nI j * nI 3 + nI 2 - nI 1 = nI (3 * j + 1) from ix3 j 1, el_lt (by omega) (by decide)] at hp113
    subst hp113
    refine tI (hR.2 j hj).2.2.1 ?_
    refine lv_istore (lv' := [(4, .int (nI ((f j).2.2.1))), (3, .int (nI ((f j).2.1))), (0, .ref (eA E 5)), (1, .ref (eA E (10 + 3 * b))), (2, .int (nI j))]) hx hy dX2_exactShareIn_13 hl (by decide) rfl (fun ls hl => ?_)
    refine lv_aload_n hx hy dX2_exactShareIn_15 rfl (lv_at hl 2 rfl) ?_
    refine lv_iload_n hx hy dX2_exactShareIn_16 rfl (lv_at hl 1 rfl) ?_
    refine zI hI (xV F hI hl (kX2_exactShareOf l E (u) (nI ((f j).2.1))) M_X2_63 (rX2 F hI) rfl ⟨Nat.le_of_ble_eq_true rfl, Nat.le_of_ble_eq_true rfl⟩ ⟨Nat.zero_le _, Nat.zero_le _⟩ rfl (Nat.le_of_ble_eq_true rfl) dX2_exactShareIn_17) (fun r117 v118 H locs hI hp116 => ?_)
    rw [el_lt (by omega) (by decide)] at hp116
    subst hp116
    refine tI xA ?_
    refine lv_istore (lv' := [(5, .int (nI (ex f (f j).2.1))), (4, .int (nI ((f j).2.2.1))), (3, .int (nI ((f j).2.1))), (0, .ref (eA E 5)), (1, .ref (eA E (10 + 3 * b))), (2, .int (nI j))]) hx hy dX2_exactShareIn_20 hl (by decide) rfl (fun ls hl => ?_)
    refine lv_aload_n hx hy dX2_exactShareIn_22 rfl (lv_at hl 4 rfl) ?_
    refine lv_iload_n hx hy dX2_exactShareIn_23 rfl (lv_at hl 5 rfl) ?_
    refine zI hI (xV F hI hl (kX0_kindOf l E (u) (b := b) hb (nI j)) M_X2_66 (rX0 F hI (b := b) hb) rfl ⟨Nat.le_of_ble_eq_true rfl, Nat.le_of_ble_eq_true rfl⟩ ⟨Nat.zero_le _, Nat.zero_le _⟩ rfl (Nat.le_of_ble_eq_true rfl) dX2_exactShareIn_24) (fun r120 v121 H locs hI hp119 => ?_)
    rw [el_lt (by omega) (by decide)] at hp119
    subst hp119
    refine tI (show _ = nI 6 by rw [← hk1]; exact (hR.2 j hj).1) ?_
    refine lv_tableOut (tgt := 165) hx hy dX2_exactShareIn_27 (by decide) (by decide) ?_
    refine lv_iload hx hy dX2_exactShareIn_165 (lv_at hl 0 rfl) ?_
    exact rI hQ F (v := ()) hI dX2_exactShareIn_167 (by rw [ex_eq hok]; simp [exS, hk1])
set_option maxHeartbeats 400000 in
set_option maxRecDepth 100000 in
theorem kX2_depthIn (l : Launch) (E : EV) (u : SS) {b n : Nat} {f : Nat → Ln} (hb : b < 7) (hR : RepL b u.1 n f) (h16 : n ≤ 16) (j : Nat) (hj : j < n) (hok : LnOk j (f j)) (hX : ∀ i, i < j → u.1 4 i = nI (dp f i)) (hL : ∀ i, i < j → dp f i ≤ 16) : CT l yX2_depthIn cX2_depthIn 6 (some .int) (Rm 2 43) [.ref (eA E 5), .ref (eA E (10 + 3 * b)), .int (nI j)] E u (Q_i E (fun r _ => r = nI (dp f j)) (fun (_ : Unit) => u)) := by
  refine mstart RX2 (by decide +kernel) rfl (Nat.le_of_ble_eq_true rfl) ?_
  intro p e s m args below meth co ls Q hQ F hI hl
  have hx := F.1
  have hy := F.2.1
  have hl : lv_has ls 6 [(0, .ref (eA E 5)), (1, .ref (eA E (10 + 3 * b))), (2, .int (nI j))] := hl
  have hk6 := hok.1
  rcases (show (f j).1 = 0 ∨ (f j).1 = 1 ∨ (f j).1 = 2 ∨ (f j).1 = 3 ∨ (f j).1 = 4 ∨ (f j).1 = 5 ∨ (f j).1 = 6 by omega) with hk1 | hk1 | hk1 | hk1 | hk1 | hk1 | hk1
  · refine lv_iconst (v := nI 0) hx hy dX2_depthIn_0 (by decide) ?_
    refine lv_istore_n (lv' := [(3, .int (nI 0)), (0, .ref (eA E 5)), (1, .ref (eA E (10 + 3 * b))), (2, .int (nI j))]) hx hy dX2_depthIn_1 rfl hl (by decide) rfl (fun ls hl => ?_)
    refine lv_aload_n hx hy dX2_depthIn_2 rfl (lv_at hl 2 rfl) ?_
    refine lv_iload_n hx hy dX2_depthIn_3 rfl (lv_at hl 3 rfl) ?_
    refine zI hI (xV F hI hl (kX0_kindOf l E (u) (b := b) hb (nI j)) M_X2_66 (rX0 F hI (b := b) hb) rfl ⟨Nat.le_of_ble_eq_true rfl, Nat.le_of_ble_eq_true rfl⟩ ⟨Nat.zero_le _, Nat.zero_le _⟩ rfl (Nat.le_of_ble_eq_true rfl) dX2_depthIn_4) (fun r3 v4 H locs hI hp2 => ?_)
    rw [el_lt (by omega) (by decide)] at hp2
    subst hp2
    refine tI (show _ = nI 0 by rw [← hk1]; exact (hR.2 j hj).1) ?_
    refine zI hI (xS F hI hl (kX5_linesOfKind l E (u) 0 (by omega)) M_X2_80 rfl ⟨Nat.le_of_ble_eq_true rfl, Nat.le_of_ble_eq_true rfl⟩ ⟨Nat.zero_le _, Nat.zero_le _⟩ rfl (Nat.le_of_ble_eq_true rfl) dX2_depthIn_7) (fun r6 v7 H locs hI hp5 => ?_)
    subst hp5
    refine tI (show _ = nI 0 from rfl) ?_
    refine lv_istore (lv' := [(4, .int (nI 0)), (3, .int (nI 0)), (0, .ref (eA E 5)), (1, .ref (eA E (10 + 3 * b))), (2, .int (nI j))]) hx hy dX2_depthIn_10 hl (by decide) rfl (fun ls hl => ?_)
    refine lv_iconst (v := nI 1) hx hy dX2_depthIn_12 (by decide) ?_
    refine lv_istore (lv' := [(5, .int (nI 1)), (4, .int (nI 0)), (3, .int (nI 0)), (0, .ref (eA E 5)), (1, .ref (eA E (10 + 3 * b))), (2, .int (nI j))]) hx hy dX2_depthIn_13 hl (by decide) rfl (fun ls hl => ?_)
    refine lv_iload hx hy dX2_depthIn_15 (lv_at hl 0 rfl) ?_
    refine lv_iload hx hy dX2_depthIn_17 (lv_at hl 1 rfl) ?_
    refine lv_icmp_gt (tgt := 46) hx hy dX2_depthIn_19 (by decide) (fun _ => ?_) (fun q => absurd q (by decide))
    refine lv_iload_n hx hy dX2_depthIn_46 rfl (lv_at hl 2 rfl) ?_
    exact rI hQ F (v := ()) hI dX2_depthIn_47 (by rw [dp_eq hok]; simp [dpS, hk1])
  · have hA := hok.2.2.1 (by omega)
    have hB := hok.2.2.2.1 (by omega) (by omega)
    have xA := hX (f j).2.1 hA
    have lA := hL (f j).2.1 hA
    have xB := hX (f j).2.2.1 hB
    have lB := hL (f j).2.2.1 hB
    refine lv_iconst (v := nI 0) hx hy dX2_depthIn_0 (by decide) ?_
    refine lv_istore_n (lv' := [(3, .int (nI 0)), (0, .ref (eA E 5)), (1, .ref (eA E (10 + 3 * b))), (2, .int (nI j))]) hx hy dX2_depthIn_1 rfl hl (by decide) rfl (fun ls hl => ?_)
    refine lv_aload_n hx hy dX2_depthIn_2 rfl (lv_at hl 2 rfl) ?_
    refine lv_iload_n hx hy dX2_depthIn_3 rfl (lv_at hl 3 rfl) ?_
    refine zI hI (xV F hI hl (kX0_kindOf l E (u) (b := b) hb (nI j)) M_X2_66 (rX0 F hI (b := b) hb) rfl ⟨Nat.le_of_ble_eq_true rfl, Nat.le_of_ble_eq_true rfl⟩ ⟨Nat.zero_le _, Nat.zero_le _⟩ rfl (Nat.le_of_ble_eq_true rfl) dX2_depthIn_4) (fun r9 v10 H locs hI hp8 => ?_)
    rw [el_lt (by omega) (by decide)] at hp8
    subst hp8
    refine tI (show _ = nI 1 by rw [← hk1]; exact (hR.2 j hj).1) ?_
    refine zI hI (xS F hI hl (kX5_linesOfKind l E (u) 1 (by omega)) M_X2_80 rfl ⟨Nat.le_of_ble_eq_true rfl, Nat.le_of_ble_eq_true rfl⟩ ⟨Nat.zero_le _, Nat.zero_le _⟩ rfl (Nat.le_of_ble_eq_true rfl) dX2_depthIn_7) (fun r12 v13 H locs hI hp11 => ?_)
    subst hp11
    refine tI (show _ = nI 2 from rfl) ?_
    refine lv_istore (lv' := [(4, .int (nI 2)), (3, .int (nI 0)), (0, .ref (eA E 5)), (1, .ref (eA E (10 + 3 * b))), (2, .int (nI j))]) hx hy dX2_depthIn_10 hl (by decide) rfl (fun ls hl => ?_)
    refine lv_iconst (v := nI 1) hx hy dX2_depthIn_12 (by decide) ?_
    refine lv_istore (lv' := [(5, .int (nI 1)), (4, .int (nI 2)), (3, .int (nI 0)), (0, .ref (eA E 5)), (1, .ref (eA E (10 + 3 * b))), (2, .int (nI j))]) hx hy dX2_depthIn_13 hl (by decide) rfl (fun ls hl => ?_)
    refine lv_iload hx hy dX2_depthIn_15 (lv_at hl 0 rfl) ?_
    refine lv_iload hx hy dX2_depthIn_17 (lv_at hl 1 rfl) ?_
    refine lv_icmp_gt (tgt := 46) hx hy dX2_depthIn_19 (by decide) (fun q => absurd q (by decide)) (fun _ => ?_)
    refine lv_iload_n hx hy dX2_depthIn_22 rfl (lv_at hl 2 rfl) ?_
    refine lv_iconst (v := nI 1) hx hy dX2_depthIn_23 (by decide) ?_
    refine lv_aload_n hx hy dX2_depthIn_24 rfl (lv_at hl 3 rfl) ?_
    refine lv_aload_n hx hy dX2_depthIn_25 rfl (lv_at hl 4 rfl) ?_
    refine lv_iload_n hx hy dX2_depthIn_26 rfl (lv_at hl 5 rfl) ?_
    refine lv_iload hx hy dX2_depthIn_27 (lv_at hl 0 rfl) ?_
    refine zI hI (xV F hI hl (kX0_numberOf l E (u) (b := b) hb (nI j) (nI 1)) M_X2_60 (rX0 F hI (b := b) hb) rfl ⟨Nat.le_of_ble_eq_true rfl, Nat.le_of_ble_eq_true rfl⟩ ⟨Nat.zero_le _, Nat.zero_le _⟩ rfl (Nat.le_of_ble_eq_true rfl) dX2_depthIn_29) (fun r15 v16 H locs hI hp14 => ?_)
    rw [show nI j * nI 3 + nI 1 - nI 1 = nI (3 * j) from ix3 j 0, el_lt (by omega) (by decide)] at hp14
    subst hp14
    refine tI (hR.2 j hj).2.1 ?_
    refine zI hI (xV F hI hl (kX2_depthOf l E (u) (nI ((f j).2.1))) M_X2_51 (rX2 F hI) rfl ⟨Nat.le_of_ble_eq_true rfl, Nat.le_of_ble_eq_true rfl⟩ ⟨Nat.zero_le _, Nat.zero_le _⟩ rfl (Nat.le_of_ble_eq_true rfl) dX2_depthIn_32) (fun r18 v19 H locs hI hp17 => ?_)
    rw [el_lt (by omega) (by decide)] at hp17
    subst hp17
    refine tI xA ?_
    refine lv_iadd hx hy dX2_depthIn_35 ?_
    refine tI (nI_add (1) (dp f (f j).2.1)) ?_
    refine zm_max F hl M_X2_54 ⟨Nat.le_of_ble_eq_true rfl, Nat.le_of_ble_eq_true rfl⟩ ⟨Nat.zero_le _, Nat.zero_le _⟩ dX2_depthIn_36 ?_
    refine tI (mx_nI (a := 0) (b := 1 + dp f (f j).2.1) (by omega) (by omega)) ?_
    refine lv_istore_n (lv' := [(3, .int (nI (max (0) (1 + dp f (f j).2.1)))), (5, .int (nI 1)), (4, .int (nI 2)), (0, .ref (eA E 5)), (1, .ref (eA E (10 + 3 * b))), (2, .int (nI j))]) hx hy dX2_depthIn_39 rfl hl (by decide) rfl (fun ls hl => ?_)
    refine lv_iinc (v := nI 2) (lv' := [(5, .int (nI 2)), (3, .int (nI (max (0) (1 + dp f (f j).2.1)))), (4, .int (nI 2)), (0, .ref (eA E 5)), (1, .ref (eA E (10 + 3 * b))), (2, .int (nI j))]) hx hy dX2_depthIn_40 hl (k := 1) rfl rfl (by decide) rfl (fun ls hl => ?_)
    refine lv_goto (tgt := 15) hx hy dX2_depthIn_43 (by decide) ?_
    refine lv_iload hx hy dX2_depthIn_15 (lv_at hl 0 rfl) ?_
    refine lv_iload hx hy dX2_depthIn_17 (lv_at hl 2 rfl) ?_
    refine lv_icmp_gt (tgt := 46) hx hy dX2_depthIn_19 (by decide) (fun q => absurd q (by decide)) (fun _ => ?_)
    refine lv_iload_n hx hy dX2_depthIn_22 rfl (lv_at hl 1 rfl) ?_
    refine lv_iconst (v := nI 1) hx hy dX2_depthIn_23 (by decide) ?_
    refine lv_aload_n hx hy dX2_depthIn_24 rfl (lv_at hl 3 rfl) ?_
    refine lv_aload_n hx hy dX2_depthIn_25 rfl (lv_at hl 4 rfl) ?_
    refine lv_iload_n hx hy dX2_depthIn_26 rfl (lv_at hl 5 rfl) ?_
    refine lv_iload hx hy dX2_depthIn_27 (lv_at hl 0 rfl) ?_
    refine zI hI (xV F hI hl (kX0_numberOf l E (u) (b := b) hb (nI j) (nI 2)) M_X2_60 (rX0 F hI (b := b) hb) rfl ⟨Nat.le_of_ble_eq_true rfl, Nat.le_of_ble_eq_true rfl⟩ ⟨Nat.zero_le _, Nat.zero_le _⟩ rfl (Nat.le_of_ble_eq_true rfl) dX2_depthIn_29) (fun r21 v22 H locs hI hp20 => ?_)
    rw [show nI j * nI 3 + nI 2 - nI 1 = nI (3 * j + 1) from ix3 j 1, el_lt (by omega) (by decide)] at hp20
    subst hp20
    refine tI (hR.2 j hj).2.2.1 ?_
    refine zI hI (xV F hI hl (kX2_depthOf l E (u) (nI ((f j).2.2.1))) M_X2_51 (rX2 F hI) rfl ⟨Nat.le_of_ble_eq_true rfl, Nat.le_of_ble_eq_true rfl⟩ ⟨Nat.zero_le _, Nat.zero_le _⟩ rfl (Nat.le_of_ble_eq_true rfl) dX2_depthIn_32) (fun r24 v25 H locs hI hp23 => ?_)
    rw [el_lt (by omega) (by decide)] at hp23
    subst hp23
    refine tI xB ?_
    refine lv_iadd hx hy dX2_depthIn_35 ?_
    refine tI (nI_add (1) (dp f (f j).2.2.1)) ?_
    refine zm_max F hl M_X2_54 ⟨Nat.le_of_ble_eq_true rfl, Nat.le_of_ble_eq_true rfl⟩ ⟨Nat.zero_le _, Nat.zero_le _⟩ dX2_depthIn_36 ?_
    refine tI (mx_nI (a := max (0) (1 + dp f (f j).2.1)) (b := 1 + dp f (f j).2.2.1) (by omega) (by omega)) ?_
    refine lv_istore_n (lv' := [(3, .int (nI (max (max (0) (1 + dp f (f j).2.1)) (1 + dp f (f j).2.2.1)))), (5, .int (nI 2)), (4, .int (nI 2)), (0, .ref (eA E 5)), (1, .ref (eA E (10 + 3 * b))), (2, .int (nI j))]) hx hy dX2_depthIn_39 rfl hl (by decide) rfl (fun ls hl => ?_)
    refine lv_iinc (v := nI 3) (lv' := [(5, .int (nI 3)), (3, .int (nI (max (max (0) (1 + dp f (f j).2.1)) (1 + dp f (f j).2.2.1)))), (4, .int (nI 2)), (0, .ref (eA E 5)), (1, .ref (eA E (10 + 3 * b))), (2, .int (nI j))]) hx hy dX2_depthIn_40 hl (k := 1) rfl rfl (by decide) rfl (fun ls hl => ?_)
    refine lv_goto (tgt := 15) hx hy dX2_depthIn_43 (by decide) ?_
    refine lv_iload hx hy dX2_depthIn_15 (lv_at hl 0 rfl) ?_
    refine lv_iload hx hy dX2_depthIn_17 (lv_at hl 2 rfl) ?_
    refine lv_icmp_gt (tgt := 46) hx hy dX2_depthIn_19 (by decide) (fun _ => ?_) (fun q => absurd q (by decide))
    refine lv_iload_n hx hy dX2_depthIn_46 rfl (lv_at hl 1 rfl) ?_
    exact rI hQ F (v := ()) hI dX2_depthIn_47 (by rw [dp_eq hok]; simp [dpS, hk1])
  · have hA := hok.2.2.1 (by omega)
    have hB := hok.2.2.2.1 (by omega) (by omega)
    have xA := hX (f j).2.1 hA
    have lA := hL (f j).2.1 hA
    have xB := hX (f j).2.2.1 hB
    have lB := hL (f j).2.2.1 hB
    refine lv_iconst (v := nI 0) hx hy dX2_depthIn_0 (by decide) ?_
    refine lv_istore_n (lv' := [(3, .int (nI 0)), (0, .ref (eA E 5)), (1, .ref (eA E (10 + 3 * b))), (2, .int (nI j))]) hx hy dX2_depthIn_1 rfl hl (by decide) rfl (fun ls hl => ?_)
    refine lv_aload_n hx hy dX2_depthIn_2 rfl (lv_at hl 2 rfl) ?_
    refine lv_iload_n hx hy dX2_depthIn_3 rfl (lv_at hl 3 rfl) ?_
    refine zI hI (xV F hI hl (kX0_kindOf l E (u) (b := b) hb (nI j)) M_X2_66 (rX0 F hI (b := b) hb) rfl ⟨Nat.le_of_ble_eq_true rfl, Nat.le_of_ble_eq_true rfl⟩ ⟨Nat.zero_le _, Nat.zero_le _⟩ rfl (Nat.le_of_ble_eq_true rfl) dX2_depthIn_4) (fun r27 v28 H locs hI hp26 => ?_)
    rw [el_lt (by omega) (by decide)] at hp26
    subst hp26
    refine tI (show _ = nI 2 by rw [← hk1]; exact (hR.2 j hj).1) ?_
    refine zI hI (xS F hI hl (kX5_linesOfKind l E (u) 2 (by omega)) M_X2_80 rfl ⟨Nat.le_of_ble_eq_true rfl, Nat.le_of_ble_eq_true rfl⟩ ⟨Nat.zero_le _, Nat.zero_le _⟩ rfl (Nat.le_of_ble_eq_true rfl) dX2_depthIn_7) (fun r30 v31 H locs hI hp29 => ?_)
    subst hp29
    refine tI (show _ = nI 2 from rfl) ?_
    refine lv_istore (lv' := [(4, .int (nI 2)), (3, .int (nI 0)), (0, .ref (eA E 5)), (1, .ref (eA E (10 + 3 * b))), (2, .int (nI j))]) hx hy dX2_depthIn_10 hl (by decide) rfl (fun ls hl => ?_)
    refine lv_iconst (v := nI 1) hx hy dX2_depthIn_12 (by decide) ?_
    refine lv_istore (lv' := [(5, .int (nI 1)), (4, .int (nI 2)), (3, .int (nI 0)), (0, .ref (eA E 5)), (1, .ref (eA E (10 + 3 * b))), (2, .int (nI j))]) hx hy dX2_depthIn_13 hl (by decide) rfl (fun ls hl => ?_)
    refine lv_iload hx hy dX2_depthIn_15 (lv_at hl 0 rfl) ?_
    refine lv_iload hx hy dX2_depthIn_17 (lv_at hl 1 rfl) ?_
    refine lv_icmp_gt (tgt := 46) hx hy dX2_depthIn_19 (by decide) (fun q => absurd q (by decide)) (fun _ => ?_)
    refine lv_iload_n hx hy dX2_depthIn_22 rfl (lv_at hl 2 rfl) ?_
    refine lv_iconst (v := nI 1) hx hy dX2_depthIn_23 (by decide) ?_
    refine lv_aload_n hx hy dX2_depthIn_24 rfl (lv_at hl 3 rfl) ?_
    refine lv_aload_n hx hy dX2_depthIn_25 rfl (lv_at hl 4 rfl) ?_
    refine lv_iload_n hx hy dX2_depthIn_26 rfl (lv_at hl 5 rfl) ?_
    refine lv_iload hx hy dX2_depthIn_27 (lv_at hl 0 rfl) ?_
    refine zI hI (xV F hI hl (kX0_numberOf l E (u) (b := b) hb (nI j) (nI 1)) M_X2_60 (rX0 F hI (b := b) hb) rfl ⟨Nat.le_of_ble_eq_true rfl, Nat.le_of_ble_eq_true rfl⟩ ⟨Nat.zero_le _, Nat.zero_le _⟩ rfl (Nat.le_of_ble_eq_true rfl) dX2_depthIn_29) (fun r33 v34 H locs hI hp32 => ?_)
    rw [show nI j * nI 3 + nI 1 - nI 1 = nI (3 * j) from ix3 j 0, el_lt (by omega) (by decide)] at hp32
    subst hp32
    refine tI (hR.2 j hj).2.1 ?_
    refine zI hI (xV F hI hl (kX2_depthOf l E (u) (nI ((f j).2.1))) M_X2_51 (rX2 F hI) rfl ⟨Nat.le_of_ble_eq_true rfl, Nat.le_of_ble_eq_true rfl⟩ ⟨Nat.zero_le _, Nat.zero_le _⟩ rfl (Nat.le_of_ble_eq_true rfl) dX2_depthIn_32) (fun r36 v37 H locs hI hp35 => ?_)
    rw [el_lt (by omega) (by decide)] at hp35
    subst hp35
    refine tI xA ?_
    refine lv_iadd hx hy dX2_depthIn_35 ?_
    refine tI (nI_add (1) (dp f (f j).2.1)) ?_
    refine zm_max F hl M_X2_54 ⟨Nat.le_of_ble_eq_true rfl, Nat.le_of_ble_eq_true rfl⟩ ⟨Nat.zero_le _, Nat.zero_le _⟩ dX2_depthIn_36 ?_
    refine tI (mx_nI (a := 0) (b := 1 + dp f (f j).2.1) (by omega) (by omega)) ?_
    refine lv_istore_n (lv' := [(3, .int (nI (max (0) (1 + dp f (f j).2.1)))), (5, .int (nI 1)), (4, .int (nI 2)), (0, .ref (eA E 5)), (1, .ref (eA E (10 + 3 * b))), (2, .int (nI j))]) hx hy dX2_depthIn_39 rfl hl (by decide) rfl (fun ls hl => ?_)
    refine lv_iinc (v := nI 2) (lv' := [(5, .int (nI 2)), (3, .int (nI (max (0) (1 + dp f (f j).2.1)))), (4, .int (nI 2)), (0, .ref (eA E 5)), (1, .ref (eA E (10 + 3 * b))), (2, .int (nI j))]) hx hy dX2_depthIn_40 hl (k := 1) rfl rfl (by decide) rfl (fun ls hl => ?_)
    refine lv_goto (tgt := 15) hx hy dX2_depthIn_43 (by decide) ?_
    refine lv_iload hx hy dX2_depthIn_15 (lv_at hl 0 rfl) ?_
    refine lv_iload hx hy dX2_depthIn_17 (lv_at hl 2 rfl) ?_
    refine lv_icmp_gt (tgt := 46) hx hy dX2_depthIn_19 (by decide) (fun q => absurd q (by decide)) (fun _ => ?_)
    refine lv_iload_n hx hy dX2_depthIn_22 rfl (lv_at hl 1 rfl) ?_
    refine lv_iconst (v := nI 1) hx hy dX2_depthIn_23 (by decide) ?_
    refine lv_aload_n hx hy dX2_depthIn_24 rfl (lv_at hl 3 rfl) ?_
    refine lv_aload_n hx hy dX2_depthIn_25 rfl (lv_at hl 4 rfl) ?_
    refine lv_iload_n hx hy dX2_depthIn_26 rfl (lv_at hl 5 rfl) ?_
    refine lv_iload hx hy dX2_depthIn_27 (lv_at hl 0 rfl) ?_
    refine zI hI (xV F hI hl (kX0_numberOf l E (u) (b := b) hb (nI j) (nI 2)) M_X2_60 (rX0 F hI (b := b) hb) rfl ⟨Nat.le_of_ble_eq_true rfl, Nat.le_of_ble_eq_true rfl⟩ ⟨Nat.zero_le _, Nat.zero_le _⟩ rfl (Nat.le_of_ble_eq_true rfl) dX2_depthIn_29) (fun r39 v40 H locs hI hp38 => ?_)
    rw [show nI j * nI 3 + nI 2 - nI 1 = nI (3 * j + 1) from ix3 j 1, el_lt (by omega) (by decide)] at hp38
    subst hp38
    refine tI (hR.2 j hj).2.2.1 ?_
    refine zI hI (xV F hI hl (kX2_depthOf l E (u) (nI ((f j).2.2.1))) M_X2_51 (rX2 F hI) rfl ⟨Nat.le_of_ble_eq_true rfl, Nat.le_of_ble_eq_true rfl⟩ ⟨Nat.zero_le _, Nat.zero_le _⟩ rfl (Nat.le_of_ble_eq_true rfl) dX2_depthIn_32) (fun r42 v43 H locs hI hp41 => ?_)
    rw [el_lt (by omega) (by decide)] at hp41
    subst hp41
    refine tI xB ?_
    refine lv_iadd hx hy dX2_depthIn_35 ?_
    refine tI (nI_add (1) (dp f (f j).2.2.1)) ?_
    refine zm_max F hl M_X2_54 ⟨Nat.le_of_ble_eq_true rfl, Nat.le_of_ble_eq_true rfl⟩ ⟨Nat.zero_le _, Nat.zero_le _⟩ dX2_depthIn_36 ?_
    refine tI (mx_nI (a := max (0) (1 + dp f (f j).2.1)) (b := 1 + dp f (f j).2.2.1) (by omega) (by omega)) ?_
    refine lv_istore_n (lv' := [(3, .int (nI (max (max (0) (1 + dp f (f j).2.1)) (1 + dp f (f j).2.2.1)))), (5, .int (nI 2)), (4, .int (nI 2)), (0, .ref (eA E 5)), (1, .ref (eA E (10 + 3 * b))), (2, .int (nI j))]) hx hy dX2_depthIn_39 rfl hl (by decide) rfl (fun ls hl => ?_)
    refine lv_iinc (v := nI 3) (lv' := [(5, .int (nI 3)), (3, .int (nI (max (max (0) (1 + dp f (f j).2.1)) (1 + dp f (f j).2.2.1)))), (4, .int (nI 2)), (0, .ref (eA E 5)), (1, .ref (eA E (10 + 3 * b))), (2, .int (nI j))]) hx hy dX2_depthIn_40 hl (k := 1) rfl rfl (by decide) rfl (fun ls hl => ?_)
    refine lv_goto (tgt := 15) hx hy dX2_depthIn_43 (by decide) ?_
    refine lv_iload hx hy dX2_depthIn_15 (lv_at hl 0 rfl) ?_
    refine lv_iload hx hy dX2_depthIn_17 (lv_at hl 2 rfl) ?_
    refine lv_icmp_gt (tgt := 46) hx hy dX2_depthIn_19 (by decide) (fun _ => ?_) (fun q => absurd q (by decide))
    refine lv_iload_n hx hy dX2_depthIn_46 rfl (lv_at hl 1 rfl) ?_
    exact rI hQ F (v := ()) hI dX2_depthIn_47 (by rw [dp_eq hok]; simp [dpS, hk1])
  · have hA := hok.2.2.1 (by omega)
    have hB := hok.2.2.2.1 (by omega) (by omega)
    have xA := hX (f j).2.1 hA
    have lA := hL (f j).2.1 hA
    have xB := hX (f j).2.2.1 hB
    have lB := hL (f j).2.2.1 hB
    refine lv_iconst (v := nI 0) hx hy dX2_depthIn_0 (by decide) ?_
    refine lv_istore_n (lv' := [(3, .int (nI 0)), (0, .ref (eA E 5)), (1, .ref (eA E (10 + 3 * b))), (2, .int (nI j))]) hx hy dX2_depthIn_1 rfl hl (by decide) rfl (fun ls hl => ?_)
    refine lv_aload_n hx hy dX2_depthIn_2 rfl (lv_at hl 2 rfl) ?_
    refine lv_iload_n hx hy dX2_depthIn_3 rfl (lv_at hl 3 rfl) ?_
    refine zI hI (xV F hI hl (kX0_kindOf l E (u) (b := b) hb (nI j)) M_X2_66 (rX0 F hI (b := b) hb) rfl ⟨Nat.le_of_ble_eq_true rfl, Nat.le_of_ble_eq_true rfl⟩ ⟨Nat.zero_le _, Nat.zero_le _⟩ rfl (Nat.le_of_ble_eq_true rfl) dX2_depthIn_4) (fun r45 v46 H locs hI hp44 => ?_)
    rw [el_lt (by omega) (by decide)] at hp44
    subst hp44
    refine tI (show _ = nI 3 by rw [← hk1]; exact (hR.2 j hj).1) ?_
    refine zI hI (xS F hI hl (kX5_linesOfKind l E (u) 3 (by omega)) M_X2_80 rfl ⟨Nat.le_of_ble_eq_true rfl, Nat.le_of_ble_eq_true rfl⟩ ⟨Nat.zero_le _, Nat.zero_le _⟩ rfl (Nat.le_of_ble_eq_true rfl) dX2_depthIn_7) (fun r48 v49 H locs hI hp47 => ?_)
    subst hp47
    refine tI (show _ = nI 2 from rfl) ?_
    refine lv_istore (lv' := [(4, .int (nI 2)), (3, .int (nI 0)), (0, .ref (eA E 5)), (1, .ref (eA E (10 + 3 * b))), (2, .int (nI j))]) hx hy dX2_depthIn_10 hl (by decide) rfl (fun ls hl => ?_)
    refine lv_iconst (v := nI 1) hx hy dX2_depthIn_12 (by decide) ?_
    refine lv_istore (lv' := [(5, .int (nI 1)), (4, .int (nI 2)), (3, .int (nI 0)), (0, .ref (eA E 5)), (1, .ref (eA E (10 + 3 * b))), (2, .int (nI j))]) hx hy dX2_depthIn_13 hl (by decide) rfl (fun ls hl => ?_)
    refine lv_iload hx hy dX2_depthIn_15 (lv_at hl 0 rfl) ?_
    refine lv_iload hx hy dX2_depthIn_17 (lv_at hl 1 rfl) ?_
    refine lv_icmp_gt (tgt := 46) hx hy dX2_depthIn_19 (by decide) (fun q => absurd q (by decide)) (fun _ => ?_)
    refine lv_iload_n hx hy dX2_depthIn_22 rfl (lv_at hl 2 rfl) ?_
    refine lv_iconst (v := nI 1) hx hy dX2_depthIn_23 (by decide) ?_
    refine lv_aload_n hx hy dX2_depthIn_24 rfl (lv_at hl 3 rfl) ?_
    refine lv_aload_n hx hy dX2_depthIn_25 rfl (lv_at hl 4 rfl) ?_
    refine lv_iload_n hx hy dX2_depthIn_26 rfl (lv_at hl 5 rfl) ?_
    refine lv_iload hx hy dX2_depthIn_27 (lv_at hl 0 rfl) ?_
    refine zI hI (xV F hI hl (kX0_numberOf l E (u) (b := b) hb (nI j) (nI 1)) M_X2_60 (rX0 F hI (b := b) hb) rfl ⟨Nat.le_of_ble_eq_true rfl, Nat.le_of_ble_eq_true rfl⟩ ⟨Nat.zero_le _, Nat.zero_le _⟩ rfl (Nat.le_of_ble_eq_true rfl) dX2_depthIn_29) (fun r51 v52 H locs hI hp50 => ?_)
    rw [show nI j * nI 3 + nI 1 - nI 1 = nI (3 * j) from ix3 j 0, el_lt (by omega) (by decide)] at hp50
    subst hp50
    refine tI (hR.2 j hj).2.1 ?_
    refine zI hI (xV F hI hl (kX2_depthOf l E (u) (nI ((f j).2.1))) M_X2_51 (rX2 F hI) rfl ⟨Nat.le_of_ble_eq_true rfl, Nat.le_of_ble_eq_true rfl⟩ ⟨Nat.zero_le _, Nat.zero_le _⟩ rfl (Nat.le_of_ble_eq_true rfl) dX2_depthIn_32) (fun r54 v55 H locs hI hp53 => ?_)
    rw [el_lt (by omega) (by decide)] at hp53
    subst hp53
    refine tI xA ?_
    refine lv_iadd hx hy dX2_depthIn_35 ?_
    refine tI (nI_add (1) (dp f (f j).2.1)) ?_
    refine zm_max F hl M_X2_54 ⟨Nat.le_of_ble_eq_true rfl, Nat.le_of_ble_eq_true rfl⟩ ⟨Nat.zero_le _, Nat.zero_le _⟩ dX2_depthIn_36 ?_
    refine tI (mx_nI (a := 0) (b := 1 + dp f (f j).2.1) (by omega) (by omega)) ?_
    refine lv_istore_n (lv' := [(3, .int (nI (max (0) (1 + dp f (f j).2.1)))), (5, .int (nI 1)), (4, .int (nI 2)), (0, .ref (eA E 5)), (1, .ref (eA E (10 + 3 * b))), (2, .int (nI j))]) hx hy dX2_depthIn_39 rfl hl (by decide) rfl (fun ls hl => ?_)
    refine lv_iinc (v := nI 2) (lv' := [(5, .int (nI 2)), (3, .int (nI (max (0) (1 + dp f (f j).2.1)))), (4, .int (nI 2)), (0, .ref (eA E 5)), (1, .ref (eA E (10 + 3 * b))), (2, .int (nI j))]) hx hy dX2_depthIn_40 hl (k := 1) rfl rfl (by decide) rfl (fun ls hl => ?_)
    refine lv_goto (tgt := 15) hx hy dX2_depthIn_43 (by decide) ?_
    refine lv_iload hx hy dX2_depthIn_15 (lv_at hl 0 rfl) ?_
    refine lv_iload hx hy dX2_depthIn_17 (lv_at hl 2 rfl) ?_
    refine lv_icmp_gt (tgt := 46) hx hy dX2_depthIn_19 (by decide) (fun q => absurd q (by decide)) (fun _ => ?_)
    refine lv_iload_n hx hy dX2_depthIn_22 rfl (lv_at hl 1 rfl) ?_
    refine lv_iconst (v := nI 1) hx hy dX2_depthIn_23 (by decide) ?_
    refine lv_aload_n hx hy dX2_depthIn_24 rfl (lv_at hl 3 rfl) ?_
    refine lv_aload_n hx hy dX2_depthIn_25 rfl (lv_at hl 4 rfl) ?_
    refine lv_iload_n hx hy dX2_depthIn_26 rfl (lv_at hl 5 rfl) ?_
    refine lv_iload hx hy dX2_depthIn_27 (lv_at hl 0 rfl) ?_
    refine zI hI (xV F hI hl (kX0_numberOf l E (u) (b := b) hb (nI j) (nI 2)) M_X2_60 (rX0 F hI (b := b) hb) rfl ⟨Nat.le_of_ble_eq_true rfl, Nat.le_of_ble_eq_true rfl⟩ ⟨Nat.zero_le _, Nat.zero_le _⟩ rfl (Nat.le_of_ble_eq_true rfl) dX2_depthIn_29) (fun r57 v58 H locs hI hp56 => ?_)
    rw [show nI j * nI 3 + nI 2 - nI 1 = nI (3 * j + 1) from ix3 j 1, el_lt (by omega) (by decide)] at hp56
    subst hp56
    refine tI (hR.2 j hj).2.2.1 ?_
    refine zI hI (xV F hI hl (kX2_depthOf l E (u) (nI ((f j).2.2.1))) M_X2_51 (rX2 F hI) rfl ⟨Nat.le_of_ble_eq_true rfl, Nat.le_of_ble_eq_true rfl⟩ ⟨Nat.zero_le _, Nat.zero_le _⟩ rfl (Nat.le_of_ble_eq_true rfl) dX2_depthIn_32) (fun r60 v61 H locs hI hp59 => ?_)
    rw [el_lt (by omega) (by decide)] at hp59
    subst hp59
    refine tI xB ?_
    refine lv_iadd hx hy dX2_depthIn_35 ?_
    refine tI (nI_add (1) (dp f (f j).2.2.1)) ?_
    refine zm_max F hl M_X2_54 ⟨Nat.le_of_ble_eq_true rfl, Nat.le_of_ble_eq_true rfl⟩ ⟨Nat.zero_le _, Nat.zero_le _⟩ dX2_depthIn_36 ?_
    refine tI (mx_nI (a := max (0) (1 + dp f (f j).2.1)) (b := 1 + dp f (f j).2.2.1) (by omega) (by omega)) ?_
    refine lv_istore_n (lv' := [(3, .int (nI (max (max (0) (1 + dp f (f j).2.1)) (1 + dp f (f j).2.2.1)))), (5, .int (nI 2)), (4, .int (nI 2)), (0, .ref (eA E 5)), (1, .ref (eA E (10 + 3 * b))), (2, .int (nI j))]) hx hy dX2_depthIn_39 rfl hl (by decide) rfl (fun ls hl => ?_)
    refine lv_iinc (v := nI 3) (lv' := [(5, .int (nI 3)), (3, .int (nI (max (max (0) (1 + dp f (f j).2.1)) (1 + dp f (f j).2.2.1)))), (4, .int (nI 2)), (0, .ref (eA E 5)), (1, .ref (eA E (10 + 3 * b))), (2, .int (nI j))]) hx hy dX2_depthIn_40 hl (k := 1) rfl rfl (by decide) rfl (fun ls hl => ?_)
    refine lv_goto (tgt := 15) hx hy dX2_depthIn_43 (by decide) ?_
    refine lv_iload hx hy dX2_depthIn_15 (lv_at hl 0 rfl) ?_
    refine lv_iload hx hy dX2_depthIn_17 (lv_at hl 2 rfl) ?_
    refine lv_icmp_gt (tgt := 46) hx hy dX2_depthIn_19 (by decide) (fun _ => ?_) (fun q => absurd q (by decide))
    refine lv_iload_n hx hy dX2_depthIn_46 rfl (lv_at hl 1 rfl) ?_
    exact rI hQ F (v := ()) hI dX2_depthIn_47 (by rw [dp_eq hok]; simp [dpS, hk1])
  · have hA := hok.2.2.1 (by omega)
    have hB := hok.2.2.2.1 (by omega) (by omega)
    have hC := hok.2.2.2.2.1 hk1
    have xA := hX (f j).2.1 hA
    have lA := hL (f j).2.1 hA
    have xB := hX (f j).2.2.1 hB
    have lB := hL (f j).2.2.1 hB
    have xC := hX (f j).2.2.2 hC
    have lC := hL (f j).2.2.2 hC
    refine lv_iconst (v := nI 0) hx hy dX2_depthIn_0 (by decide) ?_
    refine lv_istore_n (lv' := [(3, .int (nI 0)), (0, .ref (eA E 5)), (1, .ref (eA E (10 + 3 * b))), (2, .int (nI j))]) hx hy dX2_depthIn_1 rfl hl (by decide) rfl (fun ls hl => ?_)
    refine lv_aload_n hx hy dX2_depthIn_2 rfl (lv_at hl 2 rfl) ?_
    refine lv_iload_n hx hy dX2_depthIn_3 rfl (lv_at hl 3 rfl) ?_
    refine zI hI (xV F hI hl (kX0_kindOf l E (u) (b := b) hb (nI j)) M_X2_66 (rX0 F hI (b := b) hb) rfl ⟨Nat.le_of_ble_eq_true rfl, Nat.le_of_ble_eq_true rfl⟩ ⟨Nat.zero_le _, Nat.zero_le _⟩ rfl (Nat.le_of_ble_eq_true rfl) dX2_depthIn_4) (fun r63 v64 H locs hI hp62 => ?_)
    rw [el_lt (by omega) (by decide)] at hp62
    subst hp62
    refine tI (show _ = nI 4 by rw [← hk1]; exact (hR.2 j hj).1) ?_
    refine zI hI (xS F hI hl (kX5_linesOfKind l E (u) 4 (by omega)) M_X2_80 rfl ⟨Nat.le_of_ble_eq_true rfl, Nat.le_of_ble_eq_true rfl⟩ ⟨Nat.zero_le _, Nat.zero_le _⟩ rfl (Nat.le_of_ble_eq_true rfl) dX2_depthIn_7) (fun r66 v67 H locs hI hp65 => ?_)
    subst hp65
    refine tI (show _ = nI 3 from rfl) ?_
    refine lv_istore (lv' := [(4, .int (nI 3)), (3, .int (nI 0)), (0, .ref (eA E 5)), (1, .ref (eA E (10 + 3 * b))), (2, .int (nI j))]) hx hy dX2_depthIn_10 hl (by decide) rfl (fun ls hl => ?_)
    refine lv_iconst (v := nI 1) hx hy dX2_depthIn_12 (by decide) ?_
    refine lv_istore (lv' := [(5, .int (nI 1)), (4, .int (nI 3)), (3, .int (nI 0)), (0, .ref (eA E 5)), (1, .ref (eA E (10 + 3 * b))), (2, .int (nI j))]) hx hy dX2_depthIn_13 hl (by decide) rfl (fun ls hl => ?_)
    refine lv_iload hx hy dX2_depthIn_15 (lv_at hl 0 rfl) ?_
    refine lv_iload hx hy dX2_depthIn_17 (lv_at hl 1 rfl) ?_
    refine lv_icmp_gt (tgt := 46) hx hy dX2_depthIn_19 (by decide) (fun q => absurd q (by decide)) (fun _ => ?_)
    refine lv_iload_n hx hy dX2_depthIn_22 rfl (lv_at hl 2 rfl) ?_
    refine lv_iconst (v := nI 1) hx hy dX2_depthIn_23 (by decide) ?_
    refine lv_aload_n hx hy dX2_depthIn_24 rfl (lv_at hl 3 rfl) ?_
    refine lv_aload_n hx hy dX2_depthIn_25 rfl (lv_at hl 4 rfl) ?_
    refine lv_iload_n hx hy dX2_depthIn_26 rfl (lv_at hl 5 rfl) ?_
    refine lv_iload hx hy dX2_depthIn_27 (lv_at hl 0 rfl) ?_
    refine zI hI (xV F hI hl (kX0_numberOf l E (u) (b := b) hb (nI j) (nI 1)) M_X2_60 (rX0 F hI (b := b) hb) rfl ⟨Nat.le_of_ble_eq_true rfl, Nat.le_of_ble_eq_true rfl⟩ ⟨Nat.zero_le _, Nat.zero_le _⟩ rfl (Nat.le_of_ble_eq_true rfl) dX2_depthIn_29) (fun r69 v70 H locs hI hp68 => ?_)
    rw [show nI j * nI 3 + nI 1 - nI 1 = nI (3 * j) from ix3 j 0, el_lt (by omega) (by decide)] at hp68
    subst hp68
    refine tI (hR.2 j hj).2.1 ?_
    refine zI hI (xV F hI hl (kX2_depthOf l E (u) (nI ((f j).2.1))) M_X2_51 (rX2 F hI) rfl ⟨Nat.le_of_ble_eq_true rfl, Nat.le_of_ble_eq_true rfl⟩ ⟨Nat.zero_le _, Nat.zero_le _⟩ rfl (Nat.le_of_ble_eq_true rfl) dX2_depthIn_32) (fun r72 v73 H locs hI hp71 => ?_)
    rw [el_lt (by omega) (by decide)] at hp71
    subst hp71
    refine tI xA ?_
    refine lv_iadd hx hy dX2_depthIn_35 ?_
    refine tI (nI_add (1) (dp f (f j).2.1)) ?_
    refine zm_max F hl M_X2_54 ⟨Nat.le_of_ble_eq_true rfl, Nat.le_of_ble_eq_true rfl⟩ ⟨Nat.zero_le _, Nat.zero_le _⟩ dX2_depthIn_36 ?_
    refine tI (mx_nI (a := 0) (b := 1 + dp f (f j).2.1) (by omega) (by omega)) ?_
    refine lv_istore_n (lv' := [(3, .int (nI (max (0) (1 + dp f (f j).2.1)))), (5, .int (nI 1)), (4, .int (nI 3)), (0, .ref (eA E 5)), (1, .ref (eA E (10 + 3 * b))), (2, .int (nI j))]) hx hy dX2_depthIn_39 rfl hl (by decide) rfl (fun ls hl => ?_)
    refine lv_iinc (v := nI 2) (lv' := [(5, .int (nI 2)), (3, .int (nI (max (0) (1 + dp f (f j).2.1)))), (4, .int (nI 3)), (0, .ref (eA E 5)), (1, .ref (eA E (10 + 3 * b))), (2, .int (nI j))]) hx hy dX2_depthIn_40 hl (k := 1) rfl rfl (by decide) rfl (fun ls hl => ?_)
    refine lv_goto (tgt := 15) hx hy dX2_depthIn_43 (by decide) ?_
    refine lv_iload hx hy dX2_depthIn_15 (lv_at hl 0 rfl) ?_
    refine lv_iload hx hy dX2_depthIn_17 (lv_at hl 2 rfl) ?_
    refine lv_icmp_gt (tgt := 46) hx hy dX2_depthIn_19 (by decide) (fun q => absurd q (by decide)) (fun _ => ?_)
    refine lv_iload_n hx hy dX2_depthIn_22 rfl (lv_at hl 1 rfl) ?_
    refine lv_iconst (v := nI 1) hx hy dX2_depthIn_23 (by decide) ?_
    refine lv_aload_n hx hy dX2_depthIn_24 rfl (lv_at hl 3 rfl) ?_
    refine lv_aload_n hx hy dX2_depthIn_25 rfl (lv_at hl 4 rfl) ?_
    refine lv_iload_n hx hy dX2_depthIn_26 rfl (lv_at hl 5 rfl) ?_
    refine lv_iload hx hy dX2_depthIn_27 (lv_at hl 0 rfl) ?_
    refine zI hI (xV F hI hl (kX0_numberOf l E (u) (b := b) hb (nI j) (nI 2)) M_X2_60 (rX0 F hI (b := b) hb) rfl ⟨Nat.le_of_ble_eq_true rfl, Nat.le_of_ble_eq_true rfl⟩ ⟨Nat.zero_le _, Nat.zero_le _⟩ rfl (Nat.le_of_ble_eq_true rfl) dX2_depthIn_29) (fun r75 v76 H locs hI hp74 => ?_)
    rw [show nI j * nI 3 + nI 2 - nI 1 = nI (3 * j + 1) from ix3 j 1, el_lt (by omega) (by decide)] at hp74
    subst hp74
    refine tI (hR.2 j hj).2.2.1 ?_
    refine zI hI (xV F hI hl (kX2_depthOf l E (u) (nI ((f j).2.2.1))) M_X2_51 (rX2 F hI) rfl ⟨Nat.le_of_ble_eq_true rfl, Nat.le_of_ble_eq_true rfl⟩ ⟨Nat.zero_le _, Nat.zero_le _⟩ rfl (Nat.le_of_ble_eq_true rfl) dX2_depthIn_32) (fun r78 v79 H locs hI hp77 => ?_)
    rw [el_lt (by omega) (by decide)] at hp77
    subst hp77
    refine tI xB ?_
    refine lv_iadd hx hy dX2_depthIn_35 ?_
    refine tI (nI_add (1) (dp f (f j).2.2.1)) ?_
    refine zm_max F hl M_X2_54 ⟨Nat.le_of_ble_eq_true rfl, Nat.le_of_ble_eq_true rfl⟩ ⟨Nat.zero_le _, Nat.zero_le _⟩ dX2_depthIn_36 ?_
    refine tI (mx_nI (a := max (0) (1 + dp f (f j).2.1)) (b := 1 + dp f (f j).2.2.1) (by omega) (by omega)) ?_
    refine lv_istore_n (lv' := [(3, .int (nI (max (max (0) (1 + dp f (f j).2.1)) (1 + dp f (f j).2.2.1)))), (5, .int (nI 2)), (4, .int (nI 3)), (0, .ref (eA E 5)), (1, .ref (eA E (10 + 3 * b))), (2, .int (nI j))]) hx hy dX2_depthIn_39 rfl hl (by decide) rfl (fun ls hl => ?_)
    refine lv_iinc (v := nI 3) (lv' := [(5, .int (nI 3)), (3, .int (nI (max (max (0) (1 + dp f (f j).2.1)) (1 + dp f (f j).2.2.1)))), (4, .int (nI 3)), (0, .ref (eA E 5)), (1, .ref (eA E (10 + 3 * b))), (2, .int (nI j))]) hx hy dX2_depthIn_40 hl (k := 1) rfl rfl (by decide) rfl (fun ls hl => ?_)
    refine lv_goto (tgt := 15) hx hy dX2_depthIn_43 (by decide) ?_
    refine lv_iload hx hy dX2_depthIn_15 (lv_at hl 0 rfl) ?_
    refine lv_iload hx hy dX2_depthIn_17 (lv_at hl 2 rfl) ?_
    refine lv_icmp_gt (tgt := 46) hx hy dX2_depthIn_19 (by decide) (fun q => absurd q (by decide)) (fun _ => ?_)
    refine lv_iload_n hx hy dX2_depthIn_22 rfl (lv_at hl 1 rfl) ?_
    refine lv_iconst (v := nI 1) hx hy dX2_depthIn_23 (by decide) ?_
    refine lv_aload_n hx hy dX2_depthIn_24 rfl (lv_at hl 3 rfl) ?_
    refine lv_aload_n hx hy dX2_depthIn_25 rfl (lv_at hl 4 rfl) ?_
    refine lv_iload_n hx hy dX2_depthIn_26 rfl (lv_at hl 5 rfl) ?_
    refine lv_iload hx hy dX2_depthIn_27 (lv_at hl 0 rfl) ?_
    refine zI hI (xV F hI hl (kX0_numberOf l E (u) (b := b) hb (nI j) (nI 3)) M_X2_60 (rX0 F hI (b := b) hb) rfl ⟨Nat.le_of_ble_eq_true rfl, Nat.le_of_ble_eq_true rfl⟩ ⟨Nat.zero_le _, Nat.zero_le _⟩ rfl (Nat.le_of_ble_eq_true rfl) dX2_depthIn_29) (fun r81 v82 H locs hI hp80 => ?_)
    rw [show nI j * nI 3 + nI 3 - nI 1 = nI (3 * j + 2) from ix3 j 2, el_lt (by omega) (by decide)] at hp80
    subst hp80
    refine tI (hR.2 j hj).2.2.2 ?_
    refine zI hI (xV F hI hl (kX2_depthOf l E (u) (nI ((f j).2.2.2))) M_X2_51 (rX2 F hI) rfl ⟨Nat.le_of_ble_eq_true rfl, Nat.le_of_ble_eq_true rfl⟩ ⟨Nat.zero_le _, Nat.zero_le _⟩ rfl (Nat.le_of_ble_eq_true rfl) dX2_depthIn_32) (fun r84 v85 H locs hI hp83 => ?_)
    rw [el_lt (by omega) (by decide)] at hp83
    subst hp83
    refine tI xC ?_
    refine lv_iadd hx hy dX2_depthIn_35 ?_
    refine tI (nI_add (1) (dp f (f j).2.2.2)) ?_
    refine zm_max F hl M_X2_54 ⟨Nat.le_of_ble_eq_true rfl, Nat.le_of_ble_eq_true rfl⟩ ⟨Nat.zero_le _, Nat.zero_le _⟩ dX2_depthIn_36 ?_
    refine tI (mx_nI (a := max (max (0) (1 + dp f (f j).2.1)) (1 + dp f (f j).2.2.1)) (b := 1 + dp f (f j).2.2.2) (by omega) (by omega)) ?_
    refine lv_istore_n (lv' := [(3, .int (nI (max (max (max (0) (1 + dp f (f j).2.1)) (1 + dp f (f j).2.2.1)) (1 + dp f (f j).2.2.2)))), (5, .int (nI 3)), (4, .int (nI 3)), (0, .ref (eA E 5)), (1, .ref (eA E (10 + 3 * b))), (2, .int (nI j))]) hx hy dX2_depthIn_39 rfl hl (by decide) rfl (fun ls hl => ?_)
    refine lv_iinc (v := nI 4) (lv' := [(5, .int (nI 4)), (3, .int (nI (max (max (max (0) (1 + dp f (f j).2.1)) (1 + dp f (f j).2.2.1)) (1 + dp f (f j).2.2.2)))), (4, .int (nI 3)), (0, .ref (eA E 5)), (1, .ref (eA E (10 + 3 * b))), (2, .int (nI j))]) hx hy dX2_depthIn_40 hl (k := 1) rfl rfl (by decide) rfl (fun ls hl => ?_)
    refine lv_goto (tgt := 15) hx hy dX2_depthIn_43 (by decide) ?_
    refine lv_iload hx hy dX2_depthIn_15 (lv_at hl 0 rfl) ?_
    refine lv_iload hx hy dX2_depthIn_17 (lv_at hl 2 rfl) ?_
    refine lv_icmp_gt (tgt := 46) hx hy dX2_depthIn_19 (by decide) (fun _ => ?_) (fun q => absurd q (by decide))
    refine lv_iload_n hx hy dX2_depthIn_46 rfl (lv_at hl 1 rfl) ?_
    exact rI hQ F (v := ()) hI dX2_depthIn_47 (by rw [dp_eq hok]; simp [dpS, hk1])
  · have hA := hok.2.2.1 (by omega)
    have xA := hX (f j).2.1 hA
    have lA := hL (f j).2.1 hA
    refine lv_iconst (v := nI 0) hx hy dX2_depthIn_0 (by decide) ?_
    refine lv_istore_n (lv' := [(3, .int (nI 0)), (0, .ref (eA E 5)), (1, .ref (eA E (10 + 3 * b))), (2, .int (nI j))]) hx hy dX2_depthIn_1 rfl hl (by decide) rfl (fun ls hl => ?_)
    refine lv_aload_n hx hy dX2_depthIn_2 rfl (lv_at hl 2 rfl) ?_
    refine lv_iload_n hx hy dX2_depthIn_3 rfl (lv_at hl 3 rfl) ?_
    refine zI hI (xV F hI hl (kX0_kindOf l E (u) (b := b) hb (nI j)) M_X2_66 (rX0 F hI (b := b) hb) rfl ⟨Nat.le_of_ble_eq_true rfl, Nat.le_of_ble_eq_true rfl⟩ ⟨Nat.zero_le _, Nat.zero_le _⟩ rfl (Nat.le_of_ble_eq_true rfl) dX2_depthIn_4) (fun r87 v88 H locs hI hp86 => ?_)
    rw [el_lt (by omega) (by decide)] at hp86
    subst hp86
    refine tI (show _ = nI 5 by rw [← hk1]; exact (hR.2 j hj).1) ?_
    refine zI hI (xS F hI hl (kX5_linesOfKind l E (u) 5 (by omega)) M_X2_80 rfl ⟨Nat.le_of_ble_eq_true rfl, Nat.le_of_ble_eq_true rfl⟩ ⟨Nat.zero_le _, Nat.zero_le _⟩ rfl (Nat.le_of_ble_eq_true rfl) dX2_depthIn_7) (fun r90 v91 H locs hI hp89 => ?_)
    subst hp89
    refine tI (show _ = nI 1 from rfl) ?_
    refine lv_istore (lv' := [(4, .int (nI 1)), (3, .int (nI 0)), (0, .ref (eA E 5)), (1, .ref (eA E (10 + 3 * b))), (2, .int (nI j))]) hx hy dX2_depthIn_10 hl (by decide) rfl (fun ls hl => ?_)
    refine lv_iconst (v := nI 1) hx hy dX2_depthIn_12 (by decide) ?_
    refine lv_istore (lv' := [(5, .int (nI 1)), (4, .int (nI 1)), (3, .int (nI 0)), (0, .ref (eA E 5)), (1, .ref (eA E (10 + 3 * b))), (2, .int (nI j))]) hx hy dX2_depthIn_13 hl (by decide) rfl (fun ls hl => ?_)
    refine lv_iload hx hy dX2_depthIn_15 (lv_at hl 0 rfl) ?_
    refine lv_iload hx hy dX2_depthIn_17 (lv_at hl 1 rfl) ?_
    refine lv_icmp_gt (tgt := 46) hx hy dX2_depthIn_19 (by decide) (fun q => absurd q (by decide)) (fun _ => ?_)
    refine lv_iload_n hx hy dX2_depthIn_22 rfl (lv_at hl 2 rfl) ?_
    refine lv_iconst (v := nI 1) hx hy dX2_depthIn_23 (by decide) ?_
    refine lv_aload_n hx hy dX2_depthIn_24 rfl (lv_at hl 3 rfl) ?_
    refine lv_aload_n hx hy dX2_depthIn_25 rfl (lv_at hl 4 rfl) ?_
    refine lv_iload_n hx hy dX2_depthIn_26 rfl (lv_at hl 5 rfl) ?_
    refine lv_iload hx hy dX2_depthIn_27 (lv_at hl 0 rfl) ?_
    refine zI hI (xV F hI hl (kX0_numberOf l E (u) (b := b) hb (nI j) (nI 1)) M_X2_60 (rX0 F hI (b := b) hb) rfl ⟨Nat.le_of_ble_eq_true rfl, Nat.le_of_ble_eq_true rfl⟩ ⟨Nat.zero_le _, Nat.zero_le _⟩ rfl (Nat.le_of_ble_eq_true rfl) dX2_depthIn_29) (fun r93 v94 H locs hI hp92 => ?_)
    rw [show nI j * nI 3 + nI 1 - nI 1 = nI (3 * j) from ix3 j 0, el_lt (by omega) (by decide)] at hp92
    subst hp92
    refine tI (hR.2 j hj).2.1 ?_
    refine zI hI (xV F hI hl (kX2_depthOf l E (u) (nI ((f j).2.1))) M_X2_51 (rX2 F hI) rfl ⟨Nat.le_of_ble_eq_true rfl, Nat.le_of_ble_eq_true rfl⟩ ⟨Nat.zero_le _, Nat.zero_le _⟩ rfl (Nat.le_of_ble_eq_true rfl) dX2_depthIn_32) (fun r96 v97 H locs hI hp95 => ?_)
    rw [el_lt (by omega) (by decide)] at hp95
    subst hp95
    refine tI xA ?_
    refine lv_iadd hx hy dX2_depthIn_35 ?_
    refine tI (nI_add (1) (dp f (f j).2.1)) ?_
    refine zm_max F hl M_X2_54 ⟨Nat.le_of_ble_eq_true rfl, Nat.le_of_ble_eq_true rfl⟩ ⟨Nat.zero_le _, Nat.zero_le _⟩ dX2_depthIn_36 ?_
    refine tI (mx_nI (a := 0) (b := 1 + dp f (f j).2.1) (by omega) (by omega)) ?_
    refine lv_istore_n (lv' := [(3, .int (nI (max (0) (1 + dp f (f j).2.1)))), (5, .int (nI 1)), (4, .int (nI 1)), (0, .ref (eA E 5)), (1, .ref (eA E (10 + 3 * b))), (2, .int (nI j))]) hx hy dX2_depthIn_39 rfl hl (by decide) rfl (fun ls hl => ?_)
    refine lv_iinc (v := nI 2) (lv' := [(5, .int (nI 2)), (3, .int (nI (max (0) (1 + dp f (f j).2.1)))), (4, .int (nI 1)), (0, .ref (eA E 5)), (1, .ref (eA E (10 + 3 * b))), (2, .int (nI j))]) hx hy dX2_depthIn_40 hl (k := 1) rfl rfl (by decide) rfl (fun ls hl => ?_)
    refine lv_goto (tgt := 15) hx hy dX2_depthIn_43 (by decide) ?_
    refine lv_iload hx hy dX2_depthIn_15 (lv_at hl 0 rfl) ?_
    refine lv_iload hx hy dX2_depthIn_17 (lv_at hl 2 rfl) ?_
    refine lv_icmp_gt (tgt := 46) hx hy dX2_depthIn_19 (by decide) (fun _ => ?_) (fun q => absurd q (by decide))
    refine lv_iload_n hx hy dX2_depthIn_46 rfl (lv_at hl 1 rfl) ?_
    exact rI hQ F (v := ()) hI dX2_depthIn_47 (by rw [dp_eq hok]; simp [dpS, hk1])
  · have hA := hok.2.2.1 (by omega)
    have hD := hok.2.2.2.2.2.1 hk1
    have xA := hX (f j).2.1 hA
    have lA := hL (f j).2.1 hA
    refine lv_iconst (v := nI 0) hx hy dX2_depthIn_0 (by decide) ?_
    refine lv_istore_n (lv' := [(3, .int (nI 0)), (0, .ref (eA E 5)), (1, .ref (eA E (10 + 3 * b))), (2, .int (nI j))]) hx hy dX2_depthIn_1 rfl hl (by decide) rfl (fun ls hl => ?_)
    refine lv_aload_n hx hy dX2_depthIn_2 rfl (lv_at hl 2 rfl) ?_
    refine lv_iload_n hx hy dX2_depthIn_3 rfl (lv_at hl 3 rfl) ?_
    refine zI hI (xV F hI hl (kX0_kindOf l E (u) (b := b) hb (nI j)) M_X2_66 (rX0 F hI (b := b) hb) rfl ⟨Nat.le_of_ble_eq_true rfl, Nat.le_of_ble_eq_true rfl⟩ ⟨Nat.zero_le _, Nat.zero_le _⟩ rfl (Nat.le_of_ble_eq_true rfl) dX2_depthIn_4) (fun r99 v100 H locs hI hp98 => ?_)
    rw [el_lt (by omega) (by decide)] at hp98
    subst hp98
    refine tI (show _ = nI 6 by rw [← hk1]; exact (hR.2 j hj).1) ?_
    refine zI hI (xS F hI hl (kX5_linesOfKind l E (u) 6 (by omega)) M_X2_80 rfl ⟨Nat.le_of_ble_eq_true rfl, Nat.le_of_ble_eq_true rfl⟩ ⟨Nat.zero_le _, Nat.zero_le _⟩ rfl (Nat.le_of_ble_eq_true rfl) dX2_depthIn_7) (fun r102 v103 H locs hI hp101 => ?_)
    subst hp101
    refine tI (show _ = nI 1 from rfl) ?_
    refine lv_istore (lv' := [(4, .int (nI 1)), (3, .int (nI 0)), (0, .ref (eA E 5)), (1, .ref (eA E (10 + 3 * b))), (2, .int (nI j))]) hx hy dX2_depthIn_10 hl (by decide) rfl (fun ls hl => ?_)
    refine lv_iconst (v := nI 1) hx hy dX2_depthIn_12 (by decide) ?_
    refine lv_istore (lv' := [(5, .int (nI 1)), (4, .int (nI 1)), (3, .int (nI 0)), (0, .ref (eA E 5)), (1, .ref (eA E (10 + 3 * b))), (2, .int (nI j))]) hx hy dX2_depthIn_13 hl (by decide) rfl (fun ls hl => ?_)
    refine lv_iload hx hy dX2_depthIn_15 (lv_at hl 0 rfl) ?_
    refine lv_iload hx hy dX2_depthIn_17 (lv_at hl 1 rfl) ?_
    refine lv_icmp_gt (tgt := 46) hx hy dX2_depthIn_19 (by decide) (fun q => absurd q (by decide)) (fun _ => ?_)
    refine lv_iload_n hx hy dX2_depthIn_22 rfl (lv_at hl 2 rfl) ?_
    refine lv_iconst (v := nI 1) hx hy dX2_depthIn_23 (by decide) ?_
    refine lv_aload_n hx hy dX2_depthIn_24 rfl (lv_at hl 3 rfl) ?_
    refine lv_aload_n hx hy dX2_depthIn_25 rfl (lv_at hl 4 rfl) ?_
    refine lv_iload_n hx hy dX2_depthIn_26 rfl (lv_at hl 5 rfl) ?_
    refine lv_iload hx hy dX2_depthIn_27 (lv_at hl 0 rfl) ?_
    refine zI hI (xV F hI hl (kX0_numberOf l E (u) (b := b) hb (nI j) (nI 1)) M_X2_60 (rX0 F hI (b := b) hb) rfl ⟨Nat.le_of_ble_eq_true rfl, Nat.le_of_ble_eq_true rfl⟩ ⟨Nat.zero_le _, Nat.zero_le _⟩ rfl (Nat.le_of_ble_eq_true rfl) dX2_depthIn_29) (fun r105 v106 H locs hI hp104 => ?_)
    rw [show nI j * nI 3 + nI 1 - nI 1 = nI (3 * j) from ix3 j 0, el_lt (by omega) (by decide)] at hp104
    subst hp104
    refine tI (hR.2 j hj).2.1 ?_
    refine zI hI (xV F hI hl (kX2_depthOf l E (u) (nI ((f j).2.1))) M_X2_51 (rX2 F hI) rfl ⟨Nat.le_of_ble_eq_true rfl, Nat.le_of_ble_eq_true rfl⟩ ⟨Nat.zero_le _, Nat.zero_le _⟩ rfl (Nat.le_of_ble_eq_true rfl) dX2_depthIn_32) (fun r108 v109 H locs hI hp107 => ?_)
    rw [el_lt (by omega) (by decide)] at hp107
    subst hp107
    refine tI xA ?_
    refine lv_iadd hx hy dX2_depthIn_35 ?_
    refine tI (nI_add (1) (dp f (f j).2.1)) ?_
    refine zm_max F hl M_X2_54 ⟨Nat.le_of_ble_eq_true rfl, Nat.le_of_ble_eq_true rfl⟩ ⟨Nat.zero_le _, Nat.zero_le _⟩ dX2_depthIn_36 ?_
    refine tI (mx_nI (a := 0) (b := 1 + dp f (f j).2.1) (by omega) (by omega)) ?_
    refine lv_istore_n (lv' := [(3, .int (nI (max (0) (1 + dp f (f j).2.1)))), (5, .int (nI 1)), (4, .int (nI 1)), (0, .ref (eA E 5)), (1, .ref (eA E (10 + 3 * b))), (2, .int (nI j))]) hx hy dX2_depthIn_39 rfl hl (by decide) rfl (fun ls hl => ?_)
    refine lv_iinc (v := nI 2) (lv' := [(5, .int (nI 2)), (3, .int (nI (max (0) (1 + dp f (f j).2.1)))), (4, .int (nI 1)), (0, .ref (eA E 5)), (1, .ref (eA E (10 + 3 * b))), (2, .int (nI j))]) hx hy dX2_depthIn_40 hl (k := 1) rfl rfl (by decide) rfl (fun ls hl => ?_)
    refine lv_goto (tgt := 15) hx hy dX2_depthIn_43 (by decide) ?_
    refine lv_iload hx hy dX2_depthIn_15 (lv_at hl 0 rfl) ?_
    refine lv_iload hx hy dX2_depthIn_17 (lv_at hl 2 rfl) ?_
    refine lv_icmp_gt (tgt := 46) hx hy dX2_depthIn_19 (by decide) (fun _ => ?_) (fun q => absurd q (by decide))
    refine lv_iload_n hx hy dX2_depthIn_46 rfl (lv_at hl 1 rfl) ?_
    exact rI hQ F (v := ()) hI dX2_depthIn_47 (by rw [dp_eq hok]; simp [dpS, hk1])
set_option maxHeartbeats 400000 in
set_option maxRecDepth 100000 in
theorem kX2_originsIn (l : Launch) (E : EV) (u : SS) {b n : Nat} {f : Nat → Ln} (hb : b < 7) (hR : RepL b u.1 n f) (h16 : n ≤ 16) (j : Nat) (hj : j < n) (hok : LnOk j (f j)) (hX : ∀ i, i < j → u.1 5 i = nI (og f i)) (hL : ∀ i, i < j → og f i < 2 ^ 16) : CT l yX2_originsIn cX2_originsIn 6 (some .int) (Rm 2 43) [.ref (eA E 5), .ref (eA E (10 + 3 * b)), .int (nI j)] E u (Q_i E (fun r _ => r = nI (og f j)) (fun (_ : Unit) => u)) := by
  refine mstart RX2 (by decide +kernel) rfl (Nat.le_of_ble_eq_true rfl) ?_
  intro p e s m args below meth co ls Q hQ F hI hl
  have hx := F.1
  have hy := F.2.1
  have hl : lv_has ls 6 [(0, .ref (eA E 5)), (1, .ref (eA E (10 + 3 * b))), (2, .int (nI j))] := hl
  have hk6 := hok.1
  rcases (show (f j).1 = 0 ∨ (f j).1 = 1 ∨ (f j).1 = 2 ∨ (f j).1 = 3 ∨ (f j).1 = 4 ∨ (f j).1 = 5 ∨ (f j).1 = 6 by omega) with hk1 | hk1 | hk1 | hk1 | hk1 | hk1 | hk1
  · refine lv_aload_n hx hy dX2_originsIn_0 rfl (lv_at hl 1 rfl) ?_
    refine lv_iload_n hx hy dX2_originsIn_1 rfl (lv_at hl 2 rfl) ?_
    refine zI hI (xV F hI hl (kX0_kindOf l E (u) (b := b) hb (nI j)) M_X2_66 (rX0 F hI (b := b) hb) rfl ⟨Nat.le_of_ble_eq_true rfl, Nat.le_of_ble_eq_true rfl⟩ ⟨Nat.zero_le _, Nat.zero_le _⟩ rfl (Nat.le_of_ble_eq_true rfl) dX2_originsIn_2) (fun r3 v4 H locs hI hp2 => ?_)
    rw [el_lt (by omega) (by decide)] at hp2
    subst hp2
    refine tI (show _ = nI 0 by rw [← hk1]; exact (hR.2 j hj).1) ?_
    refine lv_if_ne (tgt := 12) hx hy dX2_originsIn_5 (by decide) (fun q => absurd q (by decide)) (fun _ => ?_)
    refine lv_iconst (v := nI 1) hx hy dX2_originsIn_8 (by decide) ?_
    refine lv_iload_n hx hy dX2_originsIn_9 rfl (lv_at hl 2 rfl) ?_
    refine lv_ishl hx hy dX2_originsIn_10 ?_
    refine tI (shl_pow j (by omega)) ?_
    exact rI hQ F (v := ()) hI dX2_originsIn_11 (by rw [og_eq hok]; simp [ogS, hk1])
  · have hA := hok.2.2.1 (by omega)
    have hB := hok.2.2.2.1 (by omega) (by omega)
    have xA := hX (f j).2.1 hA
    have lA := hL (f j).2.1 hA
    have xB := hX (f j).2.2.1 hB
    have lB := hL (f j).2.2.1 hB
    refine lv_aload_n hx hy dX2_originsIn_0 rfl (lv_at hl 1 rfl) ?_
    refine lv_iload_n hx hy dX2_originsIn_1 rfl (lv_at hl 2 rfl) ?_
    refine zI hI (xV F hI hl (kX0_kindOf l E (u) (b := b) hb (nI j)) M_X2_66 (rX0 F hI (b := b) hb) rfl ⟨Nat.le_of_ble_eq_true rfl, Nat.le_of_ble_eq_true rfl⟩ ⟨Nat.zero_le _, Nat.zero_le _⟩ rfl (Nat.le_of_ble_eq_true rfl) dX2_originsIn_2) (fun r6 v7 H locs hI hp5 => ?_)
    rw [el_lt (by omega) (by decide)] at hp5
    subst hp5
    refine tI (show _ = nI 1 by rw [← hk1]; exact (hR.2 j hj).1) ?_
    refine lv_if_ne (tgt := 12) hx hy dX2_originsIn_5 (by decide) (fun _ => ?_) (fun q => absurd q (by decide))
    refine lv_iconst (v := nI 0) hx hy dX2_originsIn_12 (by decide) ?_
    refine lv_istore_n (lv' := [(3, .int (nI 0)), (0, .ref (eA E 5)), (1, .ref (eA E (10 + 3 * b))), (2, .int (nI j))]) hx hy dX2_originsIn_13 rfl hl (by decide) rfl (fun ls hl => ?_)
    refine lv_aload_n hx hy dX2_originsIn_14 rfl (lv_at hl 2 rfl) ?_
    refine lv_iload_n hx hy dX2_originsIn_15 rfl (lv_at hl 3 rfl) ?_
    refine zI hI (xV F hI hl (kX0_kindOf l E (u) (b := b) hb (nI j)) M_X2_66 (rX0 F hI (b := b) hb) rfl ⟨Nat.le_of_ble_eq_true rfl, Nat.le_of_ble_eq_true rfl⟩ ⟨Nat.zero_le _, Nat.zero_le _⟩ rfl (Nat.le_of_ble_eq_true rfl) dX2_originsIn_16) (fun r9 v10 H locs hI hp8 => ?_)
    rw [el_lt (by omega) (by decide)] at hp8
    subst hp8
    refine tI (show _ = nI 1 by rw [← hk1]; exact (hR.2 j hj).1) ?_
    refine zI hI (xS F hI hl (kX5_linesOfKind l E (u) 1 (by omega)) M_X2_80 rfl ⟨Nat.le_of_ble_eq_true rfl, Nat.le_of_ble_eq_true rfl⟩ ⟨Nat.zero_le _, Nat.zero_le _⟩ rfl (Nat.le_of_ble_eq_true rfl) dX2_originsIn_19) (fun r12 v13 H locs hI hp11 => ?_)
    subst hp11
    refine tI (show _ = nI 2 from rfl) ?_
    refine lv_istore (lv' := [(4, .int (nI 2)), (3, .int (nI 0)), (0, .ref (eA E 5)), (1, .ref (eA E (10 + 3 * b))), (2, .int (nI j))]) hx hy dX2_originsIn_22 hl (by decide) rfl (fun ls hl => ?_)
    refine lv_iconst (v := nI 1) hx hy dX2_originsIn_24 (by decide) ?_
    refine lv_istore (lv' := [(5, .int (nI 1)), (4, .int (nI 2)), (3, .int (nI 0)), (0, .ref (eA E 5)), (1, .ref (eA E (10 + 3 * b))), (2, .int (nI j))]) hx hy dX2_originsIn_25 hl (by decide) rfl (fun ls hl => ?_)
    refine lv_iload hx hy dX2_originsIn_27 (lv_at hl 0 rfl) ?_
    refine lv_iload hx hy dX2_originsIn_29 (lv_at hl 1 rfl) ?_
    refine lv_icmp_gt (tgt := 57) hx hy dX2_originsIn_31 (by decide) (fun q => absurd q (by decide)) (fun _ => ?_)
    refine lv_iload_n hx hy dX2_originsIn_34 rfl (lv_at hl 2 rfl) ?_
    refine lv_aload_n hx hy dX2_originsIn_35 rfl (lv_at hl 3 rfl) ?_
    refine gX2_origins F hI L_X2_18 dX2_originsIn_36 ?_
    refine lv_aload_n hx hy dX2_originsIn_39 rfl (lv_at hl 4 rfl) ?_
    refine lv_iload_n hx hy dX2_originsIn_40 rfl (lv_at hl 5 rfl) ?_
    refine lv_iload hx hy dX2_originsIn_41 (lv_at hl 0 rfl) ?_
    refine zI hI (xV F hI hl (kX0_numberOf l E (u) (b := b) hb (nI j) (nI 1)) M_X2_60 (rX0 F hI (b := b) hb) rfl ⟨Nat.le_of_ble_eq_true rfl, Nat.le_of_ble_eq_true rfl⟩ ⟨Nat.zero_le _, Nat.zero_le _⟩ rfl (Nat.le_of_ble_eq_true rfl) dX2_originsIn_43) (fun r15 v16 H locs hI hp14 => ?_)
    rw [show nI j * nI 3 + nI 1 - nI 1 = nI (3 * j) from ix3 j 0, el_lt (by omega) (by decide)] at hp14
    subst hp14
    refine tI (hR.2 j hj).2.1 ?_
    refine zI hI (xS F hI hl (kX5_elementAt l E (u) iX2_origins (by decide) (nI ((f j).2.1))) M_X2_41 rfl ⟨Nat.le_of_ble_eq_true rfl, Nat.le_of_ble_eq_true rfl⟩ ⟨Nat.zero_le _, Nat.zero_le _⟩ rfl (Nat.le_of_ble_eq_true rfl) dX2_originsIn_46) (fun r18 v19 H locs hI hp17 => ?_)
    rw [el_lt (by omega) (by decide)] at hp17
    subst hp17
    refine tI xA ?_
    refine lv_ior hx hy dX2_originsIn_49 ?_
    refine tI (nI_or (0) (og f (f j).2.1)) ?_
    refine lv_istore_n (lv' := [(3, .int (nI (0 ||| (og f (f j).2.1)))), (5, .int (nI 1)), (4, .int (nI 2)), (0, .ref (eA E 5)), (1, .ref (eA E (10 + 3 * b))), (2, .int (nI j))]) hx hy dX2_originsIn_50 rfl hl (by decide) rfl (fun ls hl => ?_)
    refine lv_iinc (v := nI 2) (lv' := [(5, .int (nI 2)), (3, .int (nI (0 ||| (og f (f j).2.1)))), (4, .int (nI 2)), (0, .ref (eA E 5)), (1, .ref (eA E (10 + 3 * b))), (2, .int (nI j))]) hx hy dX2_originsIn_51 hl (k := 1) rfl rfl (by decide) rfl (fun ls hl => ?_)
    refine lv_goto (tgt := 27) hx hy dX2_originsIn_54 (by decide) ?_
    refine lv_iload hx hy dX2_originsIn_27 (lv_at hl 0 rfl) ?_
    refine lv_iload hx hy dX2_originsIn_29 (lv_at hl 2 rfl) ?_
    refine lv_icmp_gt (tgt := 57) hx hy dX2_originsIn_31 (by decide) (fun q => absurd q (by decide)) (fun _ => ?_)
    refine lv_iload_n hx hy dX2_originsIn_34 rfl (lv_at hl 1 rfl) ?_
    refine lv_aload_n hx hy dX2_originsIn_35 rfl (lv_at hl 3 rfl) ?_
    refine gX2_origins F hI L_X2_18 dX2_originsIn_36 ?_
    refine lv_aload_n hx hy dX2_originsIn_39 rfl (lv_at hl 4 rfl) ?_
    refine lv_iload_n hx hy dX2_originsIn_40 rfl (lv_at hl 5 rfl) ?_
    refine lv_iload hx hy dX2_originsIn_41 (lv_at hl 0 rfl) ?_
    refine zI hI (xV F hI hl (kX0_numberOf l E (u) (b := b) hb (nI j) (nI 2)) M_X2_60 (rX0 F hI (b := b) hb) rfl ⟨Nat.le_of_ble_eq_true rfl, Nat.le_of_ble_eq_true rfl⟩ ⟨Nat.zero_le _, Nat.zero_le _⟩ rfl (Nat.le_of_ble_eq_true rfl) dX2_originsIn_43) (fun r21 v22 H locs hI hp20 => ?_)
    rw [show nI j * nI 3 + nI 2 - nI 1 = nI (3 * j + 1) from ix3 j 1, el_lt (by omega) (by decide)] at hp20
    subst hp20
    refine tI (hR.2 j hj).2.2.1 ?_
    refine zI hI (xS F hI hl (kX5_elementAt l E (u) iX2_origins (by decide) (nI ((f j).2.2.1))) M_X2_41 rfl ⟨Nat.le_of_ble_eq_true rfl, Nat.le_of_ble_eq_true rfl⟩ ⟨Nat.zero_le _, Nat.zero_le _⟩ rfl (Nat.le_of_ble_eq_true rfl) dX2_originsIn_46) (fun r24 v25 H locs hI hp23 => ?_)
    rw [el_lt (by omega) (by decide)] at hp23
    subst hp23
    refine tI xB ?_
    refine lv_ior hx hy dX2_originsIn_49 ?_
    refine tI (nI_or (0 ||| (og f (f j).2.1)) (og f (f j).2.2.1)) ?_
    refine lv_istore_n (lv' := [(3, .int (nI ((0 ||| (og f (f j).2.1)) ||| (og f (f j).2.2.1)))), (5, .int (nI 2)), (4, .int (nI 2)), (0, .ref (eA E 5)), (1, .ref (eA E (10 + 3 * b))), (2, .int (nI j))]) hx hy dX2_originsIn_50 rfl hl (by decide) rfl (fun ls hl => ?_)
    refine lv_iinc (v := nI 3) (lv' := [(5, .int (nI 3)), (3, .int (nI ((0 ||| (og f (f j).2.1)) ||| (og f (f j).2.2.1)))), (4, .int (nI 2)), (0, .ref (eA E 5)), (1, .ref (eA E (10 + 3 * b))), (2, .int (nI j))]) hx hy dX2_originsIn_51 hl (k := 1) rfl rfl (by decide) rfl (fun ls hl => ?_)
    refine lv_goto (tgt := 27) hx hy dX2_originsIn_54 (by decide) ?_
    refine lv_iload hx hy dX2_originsIn_27 (lv_at hl 0 rfl) ?_
    refine lv_iload hx hy dX2_originsIn_29 (lv_at hl 2 rfl) ?_
    refine lv_icmp_gt (tgt := 57) hx hy dX2_originsIn_31 (by decide) (fun _ => ?_) (fun q => absurd q (by decide))
    refine lv_iload_n hx hy dX2_originsIn_57 rfl (lv_at hl 1 rfl) ?_
    exact rI hQ F (v := ()) hI dX2_originsIn_58 (by rw [og_eq hok]; simp [ogS, hk1])
  · have hA := hok.2.2.1 (by omega)
    have hB := hok.2.2.2.1 (by omega) (by omega)
    have xA := hX (f j).2.1 hA
    have lA := hL (f j).2.1 hA
    have xB := hX (f j).2.2.1 hB
    have lB := hL (f j).2.2.1 hB
    refine lv_aload_n hx hy dX2_originsIn_0 rfl (lv_at hl 1 rfl) ?_
    refine lv_iload_n hx hy dX2_originsIn_1 rfl (lv_at hl 2 rfl) ?_
    refine zI hI (xV F hI hl (kX0_kindOf l E (u) (b := b) hb (nI j)) M_X2_66 (rX0 F hI (b := b) hb) rfl ⟨Nat.le_of_ble_eq_true rfl, Nat.le_of_ble_eq_true rfl⟩ ⟨Nat.zero_le _, Nat.zero_le _⟩ rfl (Nat.le_of_ble_eq_true rfl) dX2_originsIn_2) (fun r27 v28 H locs hI hp26 => ?_)
    rw [el_lt (by omega) (by decide)] at hp26
    subst hp26
    refine tI (show _ = nI 2 by rw [← hk1]; exact (hR.2 j hj).1) ?_
    refine lv_if_ne (tgt := 12) hx hy dX2_originsIn_5 (by decide) (fun _ => ?_) (fun q => absurd q (by decide))
    refine lv_iconst (v := nI 0) hx hy dX2_originsIn_12 (by decide) ?_
    refine lv_istore_n (lv' := [(3, .int (nI 0)), (0, .ref (eA E 5)), (1, .ref (eA E (10 + 3 * b))), (2, .int (nI j))]) hx hy dX2_originsIn_13 rfl hl (by decide) rfl (fun ls hl => ?_)
    refine lv_aload_n hx hy dX2_originsIn_14 rfl (lv_at hl 2 rfl) ?_
    refine lv_iload_n hx hy dX2_originsIn_15 rfl (lv_at hl 3 rfl) ?_
    refine zI hI (xV F hI hl (kX0_kindOf l E (u) (b := b) hb (nI j)) M_X2_66 (rX0 F hI (b := b) hb) rfl ⟨Nat.le_of_ble_eq_true rfl, Nat.le_of_ble_eq_true rfl⟩ ⟨Nat.zero_le _, Nat.zero_le _⟩ rfl (Nat.le_of_ble_eq_true rfl) dX2_originsIn_16) (fun r30 v31 H locs hI hp29 => ?_)
    rw [el_lt (by omega) (by decide)] at hp29
    subst hp29
    refine tI (show _ = nI 2 by rw [← hk1]; exact (hR.2 j hj).1) ?_
    refine zI hI (xS F hI hl (kX5_linesOfKind l E (u) 2 (by omega)) M_X2_80 rfl ⟨Nat.le_of_ble_eq_true rfl, Nat.le_of_ble_eq_true rfl⟩ ⟨Nat.zero_le _, Nat.zero_le _⟩ rfl (Nat.le_of_ble_eq_true rfl) dX2_originsIn_19) (fun r33 v34 H locs hI hp32 => ?_)
    subst hp32
    refine tI (show _ = nI 2 from rfl) ?_
    refine lv_istore (lv' := [(4, .int (nI 2)), (3, .int (nI 0)), (0, .ref (eA E 5)), (1, .ref (eA E (10 + 3 * b))), (2, .int (nI j))]) hx hy dX2_originsIn_22 hl (by decide) rfl (fun ls hl => ?_)
    refine lv_iconst (v := nI 1) hx hy dX2_originsIn_24 (by decide) ?_
    refine lv_istore (lv' := [(5, .int (nI 1)), (4, .int (nI 2)), (3, .int (nI 0)), (0, .ref (eA E 5)), (1, .ref (eA E (10 + 3 * b))), (2, .int (nI j))]) hx hy dX2_originsIn_25 hl (by decide) rfl (fun ls hl => ?_)
    refine lv_iload hx hy dX2_originsIn_27 (lv_at hl 0 rfl) ?_
    refine lv_iload hx hy dX2_originsIn_29 (lv_at hl 1 rfl) ?_
    refine lv_icmp_gt (tgt := 57) hx hy dX2_originsIn_31 (by decide) (fun q => absurd q (by decide)) (fun _ => ?_)
    refine lv_iload_n hx hy dX2_originsIn_34 rfl (lv_at hl 2 rfl) ?_
    refine lv_aload_n hx hy dX2_originsIn_35 rfl (lv_at hl 3 rfl) ?_
    refine gX2_origins F hI L_X2_18 dX2_originsIn_36 ?_
    refine lv_aload_n hx hy dX2_originsIn_39 rfl (lv_at hl 4 rfl) ?_
    refine lv_iload_n hx hy dX2_originsIn_40 rfl (lv_at hl 5 rfl) ?_
    refine lv_iload hx hy dX2_originsIn_41 (lv_at hl 0 rfl) ?_
    refine zI hI (xV F hI hl (kX0_numberOf l E (u) (b := b) hb (nI j) (nI 1)) M_X2_60 (rX0 F hI (b := b) hb) rfl ⟨Nat.le_of_ble_eq_true rfl, Nat.le_of_ble_eq_true rfl⟩ ⟨Nat.zero_le _, Nat.zero_le _⟩ rfl (Nat.le_of_ble_eq_true rfl) dX2_originsIn_43) (fun r36 v37 H locs hI hp35 => ?_)
    rw [show nI j * nI 3 + nI 1 - nI 1 = nI (3 * j) from ix3 j 0, el_lt (by omega) (by decide)] at hp35
    subst hp35
    refine tI (hR.2 j hj).2.1 ?_
    refine zI hI (xS F hI hl (kX5_elementAt l E (u) iX2_origins (by decide) (nI ((f j).2.1))) M_X2_41 rfl ⟨Nat.le_of_ble_eq_true rfl, Nat.le_of_ble_eq_true rfl⟩ ⟨Nat.zero_le _, Nat.zero_le _⟩ rfl (Nat.le_of_ble_eq_true rfl) dX2_originsIn_46) (fun r39 v40 H locs hI hp38 => ?_)
    rw [el_lt (by omega) (by decide)] at hp38
    subst hp38
    refine tI xA ?_
    refine lv_ior hx hy dX2_originsIn_49 ?_
    refine tI (nI_or (0) (og f (f j).2.1)) ?_
    refine lv_istore_n (lv' := [(3, .int (nI (0 ||| (og f (f j).2.1)))), (5, .int (nI 1)), (4, .int (nI 2)), (0, .ref (eA E 5)), (1, .ref (eA E (10 + 3 * b))), (2, .int (nI j))]) hx hy dX2_originsIn_50 rfl hl (by decide) rfl (fun ls hl => ?_)
    refine lv_iinc (v := nI 2) (lv' := [(5, .int (nI 2)), (3, .int (nI (0 ||| (og f (f j).2.1)))), (4, .int (nI 2)), (0, .ref (eA E 5)), (1, .ref (eA E (10 + 3 * b))), (2, .int (nI j))]) hx hy dX2_originsIn_51 hl (k := 1) rfl rfl (by decide) rfl (fun ls hl => ?_)
    refine lv_goto (tgt := 27) hx hy dX2_originsIn_54 (by decide) ?_
    refine lv_iload hx hy dX2_originsIn_27 (lv_at hl 0 rfl) ?_
    refine lv_iload hx hy dX2_originsIn_29 (lv_at hl 2 rfl) ?_
    refine lv_icmp_gt (tgt := 57) hx hy dX2_originsIn_31 (by decide) (fun q => absurd q (by decide)) (fun _ => ?_)
    refine lv_iload_n hx hy dX2_originsIn_34 rfl (lv_at hl 1 rfl) ?_
    refine lv_aload_n hx hy dX2_originsIn_35 rfl (lv_at hl 3 rfl) ?_
    refine gX2_origins F hI L_X2_18 dX2_originsIn_36 ?_
    refine lv_aload_n hx hy dX2_originsIn_39 rfl (lv_at hl 4 rfl) ?_
    refine lv_iload_n hx hy dX2_originsIn_40 rfl (lv_at hl 5 rfl) ?_
    refine lv_iload hx hy dX2_originsIn_41 (lv_at hl 0 rfl) ?_
    refine zI hI (xV F hI hl (kX0_numberOf l E (u) (b := b) hb (nI j) (nI 2)) M_X2_60 (rX0 F hI (b := b) hb) rfl ⟨Nat.le_of_ble_eq_true rfl, Nat.le_of_ble_eq_true rfl⟩ ⟨Nat.zero_le _, Nat.zero_le _⟩ rfl (Nat.le_of_ble_eq_true rfl) dX2_originsIn_43) (fun r42 v43 H locs hI hp41 => ?_)
    rw [show nI j * nI 3 + nI 2 - nI 1 = nI (3 * j + 1) from ix3 j 1, el_lt (by omega) (by decide)] at hp41
    subst hp41
    refine tI (hR.2 j hj).2.2.1 ?_
    refine zI hI (xS F hI hl (kX5_elementAt l E (u) iX2_origins (by decide) (nI ((f j).2.2.1))) M_X2_41 rfl ⟨Nat.le_of_ble_eq_true rfl, Nat.le_of_ble_eq_true rfl⟩ ⟨Nat.zero_le _, Nat.zero_le _⟩ rfl (Nat.le_of_ble_eq_true rfl) dX2_originsIn_46) (fun r45 v46 H locs hI hp44 => ?_)
    rw [el_lt (by omega) (by decide)] at hp44
    subst hp44
    refine tI xB ?_
    refine lv_ior hx hy dX2_originsIn_49 ?_
    refine tI (nI_or (0 ||| (og f (f j).2.1)) (og f (f j).2.2.1)) ?_
    refine lv_istore_n (lv' := [(3, .int (nI ((0 ||| (og f (f j).2.1)) ||| (og f (f j).2.2.1)))), (5, .int (nI 2)), (4, .int (nI 2)), (0, .ref (eA E 5)), (1, .ref (eA E (10 + 3 * b))), (2, .int (nI j))]) hx hy dX2_originsIn_50 rfl hl (by decide) rfl (fun ls hl => ?_)
    refine lv_iinc (v := nI 3) (lv' := [(5, .int (nI 3)), (3, .int (nI ((0 ||| (og f (f j).2.1)) ||| (og f (f j).2.2.1)))), (4, .int (nI 2)), (0, .ref (eA E 5)), (1, .ref (eA E (10 + 3 * b))), (2, .int (nI j))]) hx hy dX2_originsIn_51 hl (k := 1) rfl rfl (by decide) rfl (fun ls hl => ?_)
    refine lv_goto (tgt := 27) hx hy dX2_originsIn_54 (by decide) ?_
    refine lv_iload hx hy dX2_originsIn_27 (lv_at hl 0 rfl) ?_
    refine lv_iload hx hy dX2_originsIn_29 (lv_at hl 2 rfl) ?_
    refine lv_icmp_gt (tgt := 57) hx hy dX2_originsIn_31 (by decide) (fun _ => ?_) (fun q => absurd q (by decide))
    refine lv_iload_n hx hy dX2_originsIn_57 rfl (lv_at hl 1 rfl) ?_
    exact rI hQ F (v := ()) hI dX2_originsIn_58 (by rw [og_eq hok]; simp [ogS, hk1])
  · have hA := hok.2.2.1 (by omega)
    have hB := hok.2.2.2.1 (by omega) (by omega)
    have xA := hX (f j).2.1 hA
    have lA := hL (f j).2.1 hA
    have xB := hX (f j).2.2.1 hB
    have lB := hL (f j).2.2.1 hB
    refine lv_aload_n hx hy dX2_originsIn_0 rfl (lv_at hl 1 rfl) ?_
    refine lv_iload_n hx hy dX2_originsIn_1 rfl (lv_at hl 2 rfl) ?_
    refine zI hI (xV F hI hl (kX0_kindOf l E (u) (b := b) hb (nI j)) M_X2_66 (rX0 F hI (b := b) hb) rfl ⟨Nat.le_of_ble_eq_true rfl, Nat.le_of_ble_eq_true rfl⟩ ⟨Nat.zero_le _, Nat.zero_le _⟩ rfl (Nat.le_of_ble_eq_true rfl) dX2_originsIn_2) (fun r48 v49 H locs hI hp47 => ?_)
    rw [el_lt (by omega) (by decide)] at hp47
    subst hp47
    refine tI (show _ = nI 3 by rw [← hk1]; exact (hR.2 j hj).1) ?_
    refine lv_if_ne (tgt := 12) hx hy dX2_originsIn_5 (by decide) (fun _ => ?_) (fun q => absurd q (by decide))
    refine lv_iconst (v := nI 0) hx hy dX2_originsIn_12 (by decide) ?_
    refine lv_istore_n (lv' := [(3, .int (nI 0)), (0, .ref (eA E 5)), (1, .ref (eA E (10 + 3 * b))), (2, .int (nI j))]) hx hy dX2_originsIn_13 rfl hl (by decide) rfl (fun ls hl => ?_)
    refine lv_aload_n hx hy dX2_originsIn_14 rfl (lv_at hl 2 rfl) ?_
    refine lv_iload_n hx hy dX2_originsIn_15 rfl (lv_at hl 3 rfl) ?_
    refine zI hI (xV F hI hl (kX0_kindOf l E (u) (b := b) hb (nI j)) M_X2_66 (rX0 F hI (b := b) hb) rfl ⟨Nat.le_of_ble_eq_true rfl, Nat.le_of_ble_eq_true rfl⟩ ⟨Nat.zero_le _, Nat.zero_le _⟩ rfl (Nat.le_of_ble_eq_true rfl) dX2_originsIn_16) (fun r51 v52 H locs hI hp50 => ?_)
    rw [el_lt (by omega) (by decide)] at hp50
    subst hp50
    refine tI (show _ = nI 3 by rw [← hk1]; exact (hR.2 j hj).1) ?_
    refine zI hI (xS F hI hl (kX5_linesOfKind l E (u) 3 (by omega)) M_X2_80 rfl ⟨Nat.le_of_ble_eq_true rfl, Nat.le_of_ble_eq_true rfl⟩ ⟨Nat.zero_le _, Nat.zero_le _⟩ rfl (Nat.le_of_ble_eq_true rfl) dX2_originsIn_19) (fun r54 v55 H locs hI hp53 => ?_)
    subst hp53
    refine tI (show _ = nI 2 from rfl) ?_
    refine lv_istore (lv' := [(4, .int (nI 2)), (3, .int (nI 0)), (0, .ref (eA E 5)), (1, .ref (eA E (10 + 3 * b))), (2, .int (nI j))]) hx hy dX2_originsIn_22 hl (by decide) rfl (fun ls hl => ?_)
    refine lv_iconst (v := nI 1) hx hy dX2_originsIn_24 (by decide) ?_
    refine lv_istore (lv' := [(5, .int (nI 1)), (4, .int (nI 2)), (3, .int (nI 0)), (0, .ref (eA E 5)), (1, .ref (eA E (10 + 3 * b))), (2, .int (nI j))]) hx hy dX2_originsIn_25 hl (by decide) rfl (fun ls hl => ?_)
    refine lv_iload hx hy dX2_originsIn_27 (lv_at hl 0 rfl) ?_
    refine lv_iload hx hy dX2_originsIn_29 (lv_at hl 1 rfl) ?_
    refine lv_icmp_gt (tgt := 57) hx hy dX2_originsIn_31 (by decide) (fun q => absurd q (by decide)) (fun _ => ?_)
    refine lv_iload_n hx hy dX2_originsIn_34 rfl (lv_at hl 2 rfl) ?_
    refine lv_aload_n hx hy dX2_originsIn_35 rfl (lv_at hl 3 rfl) ?_
    refine gX2_origins F hI L_X2_18 dX2_originsIn_36 ?_
    refine lv_aload_n hx hy dX2_originsIn_39 rfl (lv_at hl 4 rfl) ?_
    refine lv_iload_n hx hy dX2_originsIn_40 rfl (lv_at hl 5 rfl) ?_
    refine lv_iload hx hy dX2_originsIn_41 (lv_at hl 0 rfl) ?_
    refine zI hI (xV F hI hl (kX0_numberOf l E (u) (b := b) hb (nI j) (nI 1)) M_X2_60 (rX0 F hI (b := b) hb) rfl ⟨Nat.le_of_ble_eq_true rfl, Nat.le_of_ble_eq_true rfl⟩ ⟨Nat.zero_le _, Nat.zero_le _⟩ rfl (Nat.le_of_ble_eq_true rfl) dX2_originsIn_43) (fun r57 v58 H locs hI hp56 => ?_)
    rw [show nI j * nI 3 + nI 1 - nI 1 = nI (3 * j) from ix3 j 0, el_lt (by omega) (by decide)] at hp56
    subst hp56
    refine tI (hR.2 j hj).2.1 ?_
    refine zI hI (xS F hI hl (kX5_elementAt l E (u) iX2_origins (by decide) (nI ((f j).2.1))) M_X2_41 rfl ⟨Nat.le_of_ble_eq_true rfl, Nat.le_of_ble_eq_true rfl⟩ ⟨Nat.zero_le _, Nat.zero_le _⟩ rfl (Nat.le_of_ble_eq_true rfl) dX2_originsIn_46) (fun r60 v61 H locs hI hp59 => ?_)
    rw [el_lt (by omega) (by decide)] at hp59
    subst hp59
    refine tI xA ?_
    refine lv_ior hx hy dX2_originsIn_49 ?_
    refine tI (nI_or (0) (og f (f j).2.1)) ?_
    refine lv_istore_n (lv' := [(3, .int (nI (0 ||| (og f (f j).2.1)))), (5, .int (nI 1)), (4, .int (nI 2)), (0, .ref (eA E 5)), (1, .ref (eA E (10 + 3 * b))), (2, .int (nI j))]) hx hy dX2_originsIn_50 rfl hl (by decide) rfl (fun ls hl => ?_)
    refine lv_iinc (v := nI 2) (lv' := [(5, .int (nI 2)), (3, .int (nI (0 ||| (og f (f j).2.1)))), (4, .int (nI 2)), (0, .ref (eA E 5)), (1, .ref (eA E (10 + 3 * b))), (2, .int (nI j))]) hx hy dX2_originsIn_51 hl (k := 1) rfl rfl (by decide) rfl (fun ls hl => ?_)
    refine lv_goto (tgt := 27) hx hy dX2_originsIn_54 (by decide) ?_
    refine lv_iload hx hy dX2_originsIn_27 (lv_at hl 0 rfl) ?_
    refine lv_iload hx hy dX2_originsIn_29 (lv_at hl 2 rfl) ?_
    refine lv_icmp_gt (tgt := 57) hx hy dX2_originsIn_31 (by decide) (fun q => absurd q (by decide)) (fun _ => ?_)
    refine lv_iload_n hx hy dX2_originsIn_34 rfl (lv_at hl 1 rfl) ?_
    refine lv_aload_n hx hy dX2_originsIn_35 rfl (lv_at hl 3 rfl) ?_
    refine gX2_origins F hI L_X2_18 dX2_originsIn_36 ?_
    refine lv_aload_n hx hy dX2_originsIn_39 rfl (lv_at hl 4 rfl) ?_
    refine lv_iload_n hx hy dX2_originsIn_40 rfl (lv_at hl 5 rfl) ?_
    refine lv_iload hx hy dX2_originsIn_41 (lv_at hl 0 rfl) ?_
    refine zI hI (xV F hI hl (kX0_numberOf l E (u) (b := b) hb (nI j) (nI 2)) M_X2_60 (rX0 F hI (b := b) hb) rfl ⟨Nat.le_of_ble_eq_true rfl, Nat.le_of_ble_eq_true rfl⟩ ⟨Nat.zero_le _, Nat.zero_le _⟩ rfl (Nat.le_of_ble_eq_true rfl) dX2_originsIn_43) (fun r63 v64 H locs hI hp62 => ?_)
    rw [show nI j * nI 3 + nI 2 - nI 1 = nI (3 * j + 1) from ix3 j 1, el_lt (by omega) (by decide)] at hp62
    subst hp62
    refine tI (hR.2 j hj).2.2.1 ?_
    refine zI hI (xS F hI hl (kX5_elementAt l E (u) iX2_origins (by decide) (nI ((f j).2.2.1))) M_X2_41 rfl ⟨Nat.le_of_ble_eq_true rfl, Nat.le_of_ble_eq_true rfl⟩ ⟨Nat.zero_le _, Nat.zero_le _⟩ rfl (Nat.le_of_ble_eq_true rfl) dX2_originsIn_46) (fun r66 v67 H locs hI hp65 => ?_)
    rw [el_lt (by omega) (by decide)] at hp65
    subst hp65
    refine tI xB ?_
    refine lv_ior hx hy dX2_originsIn_49 ?_
    refine tI (nI_or (0 ||| (og f (f j).2.1)) (og f (f j).2.2.1)) ?_
    refine lv_istore_n (lv' := [(3, .int (nI ((0 ||| (og f (f j).2.1)) ||| (og f (f j).2.2.1)))), (5, .int (nI 2)), (4, .int (nI 2)), (0, .ref (eA E 5)), (1, .ref (eA E (10 + 3 * b))), (2, .int (nI j))]) hx hy dX2_originsIn_50 rfl hl (by decide) rfl (fun ls hl => ?_)
    refine lv_iinc (v := nI 3) (lv' := [(5, .int (nI 3)), (3, .int (nI ((0 ||| (og f (f j).2.1)) ||| (og f (f j).2.2.1)))), (4, .int (nI 2)), (0, .ref (eA E 5)), (1, .ref (eA E (10 + 3 * b))), (2, .int (nI j))]) hx hy dX2_originsIn_51 hl (k := 1) rfl rfl (by decide) rfl (fun ls hl => ?_)
    refine lv_goto (tgt := 27) hx hy dX2_originsIn_54 (by decide) ?_
    refine lv_iload hx hy dX2_originsIn_27 (lv_at hl 0 rfl) ?_
    refine lv_iload hx hy dX2_originsIn_29 (lv_at hl 2 rfl) ?_
    refine lv_icmp_gt (tgt := 57) hx hy dX2_originsIn_31 (by decide) (fun _ => ?_) (fun q => absurd q (by decide))
    refine lv_iload_n hx hy dX2_originsIn_57 rfl (lv_at hl 1 rfl) ?_
    exact rI hQ F (v := ()) hI dX2_originsIn_58 (by rw [og_eq hok]; simp [ogS, hk1])
  · have hA := hok.2.2.1 (by omega)
    have hB := hok.2.2.2.1 (by omega) (by omega)
    have hC := hok.2.2.2.2.1 hk1
    have xA := hX (f j).2.1 hA
    have lA := hL (f j).2.1 hA
    have xB := hX (f j).2.2.1 hB
    have lB := hL (f j).2.2.1 hB
    have xC := hX (f j).2.2.2 hC
    have lC := hL (f j).2.2.2 hC
    refine lv_aload_n hx hy dX2_originsIn_0 rfl (lv_at hl 1 rfl) ?_
    refine lv_iload_n hx hy dX2_originsIn_1 rfl (lv_at hl 2 rfl) ?_
    refine zI hI (xV F hI hl (kX0_kindOf l E (u) (b := b) hb (nI j)) M_X2_66 (rX0 F hI (b := b) hb) rfl ⟨Nat.le_of_ble_eq_true rfl, Nat.le_of_ble_eq_true rfl⟩ ⟨Nat.zero_le _, Nat.zero_le _⟩ rfl (Nat.le_of_ble_eq_true rfl) dX2_originsIn_2) (fun r69 v70 H locs hI hp68 => ?_)
    rw [el_lt (by omega) (by decide)] at hp68
    subst hp68
    refine tI (show _ = nI 4 by rw [← hk1]; exact (hR.2 j hj).1) ?_
    refine lv_if_ne (tgt := 12) hx hy dX2_originsIn_5 (by decide) (fun _ => ?_) (fun q => absurd q (by decide))
    refine lv_iconst (v := nI 0) hx hy dX2_originsIn_12 (by decide) ?_
    refine lv_istore_n (lv' := [(3, .int (nI 0)), (0, .ref (eA E 5)), (1, .ref (eA E (10 + 3 * b))), (2, .int (nI j))]) hx hy dX2_originsIn_13 rfl hl (by decide) rfl (fun ls hl => ?_)
    refine lv_aload_n hx hy dX2_originsIn_14 rfl (lv_at hl 2 rfl) ?_
    refine lv_iload_n hx hy dX2_originsIn_15 rfl (lv_at hl 3 rfl) ?_
    refine zI hI (xV F hI hl (kX0_kindOf l E (u) (b := b) hb (nI j)) M_X2_66 (rX0 F hI (b := b) hb) rfl ⟨Nat.le_of_ble_eq_true rfl, Nat.le_of_ble_eq_true rfl⟩ ⟨Nat.zero_le _, Nat.zero_le _⟩ rfl (Nat.le_of_ble_eq_true rfl) dX2_originsIn_16) (fun r72 v73 H locs hI hp71 => ?_)
    rw [el_lt (by omega) (by decide)] at hp71
    subst hp71
    refine tI (show _ = nI 4 by rw [← hk1]; exact (hR.2 j hj).1) ?_
    refine zI hI (xS F hI hl (kX5_linesOfKind l E (u) 4 (by omega)) M_X2_80 rfl ⟨Nat.le_of_ble_eq_true rfl, Nat.le_of_ble_eq_true rfl⟩ ⟨Nat.zero_le _, Nat.zero_le _⟩ rfl (Nat.le_of_ble_eq_true rfl) dX2_originsIn_19) (fun r75 v76 H locs hI hp74 => ?_)
    subst hp74
    refine tI (show _ = nI 3 from rfl) ?_
    refine lv_istore (lv' := [(4, .int (nI 3)), (3, .int (nI 0)), (0, .ref (eA E 5)), (1, .ref (eA E (10 + 3 * b))), (2, .int (nI j))]) hx hy dX2_originsIn_22 hl (by decide) rfl (fun ls hl => ?_)
    refine lv_iconst (v := nI 1) hx hy dX2_originsIn_24 (by decide) ?_
    refine lv_istore (lv' := [(5, .int (nI 1)), (4, .int (nI 3)), (3, .int (nI 0)), (0, .ref (eA E 5)), (1, .ref (eA E (10 + 3 * b))), (2, .int (nI j))]) hx hy dX2_originsIn_25 hl (by decide) rfl (fun ls hl => ?_)
    refine lv_iload hx hy dX2_originsIn_27 (lv_at hl 0 rfl) ?_
    refine lv_iload hx hy dX2_originsIn_29 (lv_at hl 1 rfl) ?_
    refine lv_icmp_gt (tgt := 57) hx hy dX2_originsIn_31 (by decide) (fun q => absurd q (by decide)) (fun _ => ?_)
    refine lv_iload_n hx hy dX2_originsIn_34 rfl (lv_at hl 2 rfl) ?_
    refine lv_aload_n hx hy dX2_originsIn_35 rfl (lv_at hl 3 rfl) ?_
    refine gX2_origins F hI L_X2_18 dX2_originsIn_36 ?_
    refine lv_aload_n hx hy dX2_originsIn_39 rfl (lv_at hl 4 rfl) ?_
    refine lv_iload_n hx hy dX2_originsIn_40 rfl (lv_at hl 5 rfl) ?_
    refine lv_iload hx hy dX2_originsIn_41 (lv_at hl 0 rfl) ?_
    refine zI hI (xV F hI hl (kX0_numberOf l E (u) (b := b) hb (nI j) (nI 1)) M_X2_60 (rX0 F hI (b := b) hb) rfl ⟨Nat.le_of_ble_eq_true rfl, Nat.le_of_ble_eq_true rfl⟩ ⟨Nat.zero_le _, Nat.zero_le _⟩ rfl (Nat.le_of_ble_eq_true rfl) dX2_originsIn_43) (fun r78 v79 H locs hI hp77 => ?_)
    rw [show nI j * nI 3 + nI 1 - nI 1 = nI (3 * j) from ix3 j 0, el_lt (by omega) (by decide)] at hp77
    subst hp77
    refine tI (hR.2 j hj).2.1 ?_
    refine zI hI (xS F hI hl (kX5_elementAt l E (u) iX2_origins (by decide) (nI ((f j).2.1))) M_X2_41 rfl ⟨Nat.le_of_ble_eq_true rfl, Nat.le_of_ble_eq_true rfl⟩ ⟨Nat.zero_le _, Nat.zero_le _⟩ rfl (Nat.le_of_ble_eq_true rfl) dX2_originsIn_46) (fun r81 v82 H locs hI hp80 => ?_)
    rw [el_lt (by omega) (by decide)] at hp80
    subst hp80
    refine tI xA ?_
    refine lv_ior hx hy dX2_originsIn_49 ?_
    refine tI (nI_or (0) (og f (f j).2.1)) ?_
    refine lv_istore_n (lv' := [(3, .int (nI (0 ||| (og f (f j).2.1)))), (5, .int (nI 1)), (4, .int (nI 3)), (0, .ref (eA E 5)), (1, .ref (eA E (10 + 3 * b))), (2, .int (nI j))]) hx hy dX2_originsIn_50 rfl hl (by decide) rfl (fun ls hl => ?_)
    refine lv_iinc (v := nI 2) (lv' := [(5, .int (nI 2)), (3, .int (nI (0 ||| (og f (f j).2.1)))), (4, .int (nI 3)), (0, .ref (eA E 5)), (1, .ref (eA E (10 + 3 * b))), (2, .int (nI j))]) hx hy dX2_originsIn_51 hl (k := 1) rfl rfl (by decide) rfl (fun ls hl => ?_)
    refine lv_goto (tgt := 27) hx hy dX2_originsIn_54 (by decide) ?_
    refine lv_iload hx hy dX2_originsIn_27 (lv_at hl 0 rfl) ?_
    refine lv_iload hx hy dX2_originsIn_29 (lv_at hl 2 rfl) ?_
    refine lv_icmp_gt (tgt := 57) hx hy dX2_originsIn_31 (by decide) (fun q => absurd q (by decide)) (fun _ => ?_)
    refine lv_iload_n hx hy dX2_originsIn_34 rfl (lv_at hl 1 rfl) ?_
    refine lv_aload_n hx hy dX2_originsIn_35 rfl (lv_at hl 3 rfl) ?_
    refine gX2_origins F hI L_X2_18 dX2_originsIn_36 ?_
    refine lv_aload_n hx hy dX2_originsIn_39 rfl (lv_at hl 4 rfl) ?_
    refine lv_iload_n hx hy dX2_originsIn_40 rfl (lv_at hl 5 rfl) ?_
    refine lv_iload hx hy dX2_originsIn_41 (lv_at hl 0 rfl) ?_
    refine zI hI (xV F hI hl (kX0_numberOf l E (u) (b := b) hb (nI j) (nI 2)) M_X2_60 (rX0 F hI (b := b) hb) rfl ⟨Nat.le_of_ble_eq_true rfl, Nat.le_of_ble_eq_true rfl⟩ ⟨Nat.zero_le _, Nat.zero_le _⟩ rfl (Nat.le_of_ble_eq_true rfl) dX2_originsIn_43) (fun r84 v85 H locs hI hp83 => ?_)
    rw [show nI j * nI 3 + nI 2 - nI 1 = nI (3 * j + 1) from ix3 j 1, el_lt (by omega) (by decide)] at hp83
    subst hp83
    refine tI (hR.2 j hj).2.2.1 ?_
    refine zI hI (xS F hI hl (kX5_elementAt l E (u) iX2_origins (by decide) (nI ((f j).2.2.1))) M_X2_41 rfl ⟨Nat.le_of_ble_eq_true rfl, Nat.le_of_ble_eq_true rfl⟩ ⟨Nat.zero_le _, Nat.zero_le _⟩ rfl (Nat.le_of_ble_eq_true rfl) dX2_originsIn_46) (fun r87 v88 H locs hI hp86 => ?_)
    rw [el_lt (by omega) (by decide)] at hp86
    subst hp86
    refine tI xB ?_
    refine lv_ior hx hy dX2_originsIn_49 ?_
    refine tI (nI_or (0 ||| (og f (f j).2.1)) (og f (f j).2.2.1)) ?_
    refine lv_istore_n (lv' := [(3, .int (nI ((0 ||| (og f (f j).2.1)) ||| (og f (f j).2.2.1)))), (5, .int (nI 2)), (4, .int (nI 3)), (0, .ref (eA E 5)), (1, .ref (eA E (10 + 3 * b))), (2, .int (nI j))]) hx hy dX2_originsIn_50 rfl hl (by decide) rfl (fun ls hl => ?_)
    refine lv_iinc (v := nI 3) (lv' := [(5, .int (nI 3)), (3, .int (nI ((0 ||| (og f (f j).2.1)) ||| (og f (f j).2.2.1)))), (4, .int (nI 3)), (0, .ref (eA E 5)), (1, .ref (eA E (10 + 3 * b))), (2, .int (nI j))]) hx hy dX2_originsIn_51 hl (k := 1) rfl rfl (by decide) rfl (fun ls hl => ?_)
    refine lv_goto (tgt := 27) hx hy dX2_originsIn_54 (by decide) ?_
    refine lv_iload hx hy dX2_originsIn_27 (lv_at hl 0 rfl) ?_
    refine lv_iload hx hy dX2_originsIn_29 (lv_at hl 2 rfl) ?_
    refine lv_icmp_gt (tgt := 57) hx hy dX2_originsIn_31 (by decide) (fun q => absurd q (by decide)) (fun _ => ?_)
    refine lv_iload_n hx hy dX2_originsIn_34 rfl (lv_at hl 1 rfl) ?_
    refine lv_aload_n hx hy dX2_originsIn_35 rfl (lv_at hl 3 rfl) ?_
    refine gX2_origins F hI L_X2_18 dX2_originsIn_36 ?_
    refine lv_aload_n hx hy dX2_originsIn_39 rfl (lv_at hl 4 rfl) ?_
    refine lv_iload_n hx hy dX2_originsIn_40 rfl (lv_at hl 5 rfl) ?_
    refine lv_iload hx hy dX2_originsIn_41 (lv_at hl 0 rfl) ?_
    refine zI hI (xV F hI hl (kX0_numberOf l E (u) (b := b) hb (nI j) (nI 3)) M_X2_60 (rX0 F hI (b := b) hb) rfl ⟨Nat.le_of_ble_eq_true rfl, Nat.le_of_ble_eq_true rfl⟩ ⟨Nat.zero_le _, Nat.zero_le _⟩ rfl (Nat.le_of_ble_eq_true rfl) dX2_originsIn_43) (fun r90 v91 H locs hI hp89 => ?_)
    rw [show nI j * nI 3 + nI 3 - nI 1 = nI (3 * j + 2) from ix3 j 2, el_lt (by omega) (by decide)] at hp89
    subst hp89
    refine tI (hR.2 j hj).2.2.2 ?_
    refine zI hI (xS F hI hl (kX5_elementAt l E (u) iX2_origins (by decide) (nI ((f j).2.2.2))) M_X2_41 rfl ⟨Nat.le_of_ble_eq_true rfl, Nat.le_of_ble_eq_true rfl⟩ ⟨Nat.zero_le _, Nat.zero_le _⟩ rfl (Nat.le_of_ble_eq_true rfl) dX2_originsIn_46) (fun r93 v94 H locs hI hp92 => ?_)
    rw [el_lt (by omega) (by decide)] at hp92
    subst hp92
    refine tI xC ?_
    refine lv_ior hx hy dX2_originsIn_49 ?_
    refine tI (nI_or ((0 ||| (og f (f j).2.1)) ||| (og f (f j).2.2.1)) (og f (f j).2.2.2)) ?_
    refine lv_istore_n (lv' := [(3, .int (nI (((0 ||| (og f (f j).2.1)) ||| (og f (f j).2.2.1)) ||| (og f (f j).2.2.2)))), (5, .int (nI 3)), (4, .int (nI 3)), (0, .ref (eA E 5)), (1, .ref (eA E (10 + 3 * b))), (2, .int (nI j))]) hx hy dX2_originsIn_50 rfl hl (by decide) rfl (fun ls hl => ?_)
    refine lv_iinc (v := nI 4) (lv' := [(5, .int (nI 4)), (3, .int (nI (((0 ||| (og f (f j).2.1)) ||| (og f (f j).2.2.1)) ||| (og f (f j).2.2.2)))), (4, .int (nI 3)), (0, .ref (eA E 5)), (1, .ref (eA E (10 + 3 * b))), (2, .int (nI j))]) hx hy dX2_originsIn_51 hl (k := 1) rfl rfl (by decide) rfl (fun ls hl => ?_)
    refine lv_goto (tgt := 27) hx hy dX2_originsIn_54 (by decide) ?_
    refine lv_iload hx hy dX2_originsIn_27 (lv_at hl 0 rfl) ?_
    refine lv_iload hx hy dX2_originsIn_29 (lv_at hl 2 rfl) ?_
    refine lv_icmp_gt (tgt := 57) hx hy dX2_originsIn_31 (by decide) (fun _ => ?_) (fun q => absurd q (by decide))
    refine lv_iload_n hx hy dX2_originsIn_57 rfl (lv_at hl 1 rfl) ?_
    exact rI hQ F (v := ()) hI dX2_originsIn_58 (by rw [og_eq hok]; simp [ogS, hk1])
  · have hA := hok.2.2.1 (by omega)
    have xA := hX (f j).2.1 hA
    have lA := hL (f j).2.1 hA
    refine lv_aload_n hx hy dX2_originsIn_0 rfl (lv_at hl 1 rfl) ?_
    refine lv_iload_n hx hy dX2_originsIn_1 rfl (lv_at hl 2 rfl) ?_
    refine zI hI (xV F hI hl (kX0_kindOf l E (u) (b := b) hb (nI j)) M_X2_66 (rX0 F hI (b := b) hb) rfl ⟨Nat.le_of_ble_eq_true rfl, Nat.le_of_ble_eq_true rfl⟩ ⟨Nat.zero_le _, Nat.zero_le _⟩ rfl (Nat.le_of_ble_eq_true rfl) dX2_originsIn_2) (fun r96 v97 H locs hI hp95 => ?_)
    rw [el_lt (by omega) (by decide)] at hp95
    subst hp95
    refine tI (show _ = nI 5 by rw [← hk1]; exact (hR.2 j hj).1) ?_
    refine lv_if_ne (tgt := 12) hx hy dX2_originsIn_5 (by decide) (fun _ => ?_) (fun q => absurd q (by decide))
    refine lv_iconst (v := nI 0) hx hy dX2_originsIn_12 (by decide) ?_
    refine lv_istore_n (lv' := [(3, .int (nI 0)), (0, .ref (eA E 5)), (1, .ref (eA E (10 + 3 * b))), (2, .int (nI j))]) hx hy dX2_originsIn_13 rfl hl (by decide) rfl (fun ls hl => ?_)
    refine lv_aload_n hx hy dX2_originsIn_14 rfl (lv_at hl 2 rfl) ?_
    refine lv_iload_n hx hy dX2_originsIn_15 rfl (lv_at hl 3 rfl) ?_
    refine zI hI (xV F hI hl (kX0_kindOf l E (u) (b := b) hb (nI j)) M_X2_66 (rX0 F hI (b := b) hb) rfl ⟨Nat.le_of_ble_eq_true rfl, Nat.le_of_ble_eq_true rfl⟩ ⟨Nat.zero_le _, Nat.zero_le _⟩ rfl (Nat.le_of_ble_eq_true rfl) dX2_originsIn_16) (fun r99 v100 H locs hI hp98 => ?_)
    rw [el_lt (by omega) (by decide)] at hp98
    subst hp98
    refine tI (show _ = nI 5 by rw [← hk1]; exact (hR.2 j hj).1) ?_
    refine zI hI (xS F hI hl (kX5_linesOfKind l E (u) 5 (by omega)) M_X2_80 rfl ⟨Nat.le_of_ble_eq_true rfl, Nat.le_of_ble_eq_true rfl⟩ ⟨Nat.zero_le _, Nat.zero_le _⟩ rfl (Nat.le_of_ble_eq_true rfl) dX2_originsIn_19) (fun r102 v103 H locs hI hp101 => ?_)
    subst hp101
    refine tI (show _ = nI 1 from rfl) ?_
    refine lv_istore (lv' := [(4, .int (nI 1)), (3, .int (nI 0)), (0, .ref (eA E 5)), (1, .ref (eA E (10 + 3 * b))), (2, .int (nI j))]) hx hy dX2_originsIn_22 hl (by decide) rfl (fun ls hl => ?_)
    refine lv_iconst (v := nI 1) hx hy dX2_originsIn_24 (by decide) ?_
    refine lv_istore (lv' := [(5, .int (nI 1)), (4, .int (nI 1)), (3, .int (nI 0)), (0, .ref (eA E 5)), (1, .ref (eA E (10 + 3 * b))), (2, .int (nI j))]) hx hy dX2_originsIn_25 hl (by decide) rfl (fun ls hl => ?_)
    refine lv_iload hx hy dX2_originsIn_27 (lv_at hl 0 rfl) ?_
    refine lv_iload hx hy dX2_originsIn_29 (lv_at hl 1 rfl) ?_
    refine lv_icmp_gt (tgt := 57) hx hy dX2_originsIn_31 (by decide) (fun q => absurd q (by decide)) (fun _ => ?_)
    refine lv_iload_n hx hy dX2_originsIn_34 rfl (lv_at hl 2 rfl) ?_
    refine lv_aload_n hx hy dX2_originsIn_35 rfl (lv_at hl 3 rfl) ?_
    refine gX2_origins F hI L_X2_18 dX2_originsIn_36 ?_
    refine lv_aload_n hx hy dX2_originsIn_39 rfl (lv_at hl 4 rfl) ?_
    refine lv_iload_n hx hy dX2_originsIn_40 rfl (lv_at hl 5 rfl) ?_
    refine lv_iload hx hy dX2_originsIn_41 (lv_at hl 0 rfl) ?_
    refine zI hI (xV F hI hl (kX0_numberOf l E (u) (b := b) hb (nI j) (nI 1)) M_X2_60 (rX0 F hI (b := b) hb) rfl ⟨Nat.le_of_ble_eq_true rfl, Nat.le_of_ble_eq_true rfl⟩ ⟨Nat.zero_le _, Nat.zero_le _⟩ rfl (Nat.le_of_ble_eq_true rfl) dX2_originsIn_43) (fun r105 v106 H locs hI hp104 => ?_)
    rw [show nI j * nI 3 + nI 1 - nI 1 = nI (3 * j) from ix3 j 0, el_lt (by omega) (by decide)] at hp104
    subst hp104
    refine tI (hR.2 j hj).2.1 ?_
    refine zI hI (xS F hI hl (kX5_elementAt l E (u) iX2_origins (by decide) (nI ((f j).2.1))) M_X2_41 rfl ⟨Nat.le_of_ble_eq_true rfl, Nat.le_of_ble_eq_true rfl⟩ ⟨Nat.zero_le _, Nat.zero_le _⟩ rfl (Nat.le_of_ble_eq_true rfl) dX2_originsIn_46) (fun r108 v109 H locs hI hp107 => ?_)
    rw [el_lt (by omega) (by decide)] at hp107
    subst hp107
    refine tI xA ?_
    refine lv_ior hx hy dX2_originsIn_49 ?_
    refine tI (nI_or (0) (og f (f j).2.1)) ?_
    refine lv_istore_n (lv' := [(3, .int (nI (0 ||| (og f (f j).2.1)))), (5, .int (nI 1)), (4, .int (nI 1)), (0, .ref (eA E 5)), (1, .ref (eA E (10 + 3 * b))), (2, .int (nI j))]) hx hy dX2_originsIn_50 rfl hl (by decide) rfl (fun ls hl => ?_)
    refine lv_iinc (v := nI 2) (lv' := [(5, .int (nI 2)), (3, .int (nI (0 ||| (og f (f j).2.1)))), (4, .int (nI 1)), (0, .ref (eA E 5)), (1, .ref (eA E (10 + 3 * b))), (2, .int (nI j))]) hx hy dX2_originsIn_51 hl (k := 1) rfl rfl (by decide) rfl (fun ls hl => ?_)
    refine lv_goto (tgt := 27) hx hy dX2_originsIn_54 (by decide) ?_
    refine lv_iload hx hy dX2_originsIn_27 (lv_at hl 0 rfl) ?_
    refine lv_iload hx hy dX2_originsIn_29 (lv_at hl 2 rfl) ?_
    refine lv_icmp_gt (tgt := 57) hx hy dX2_originsIn_31 (by decide) (fun _ => ?_) (fun q => absurd q (by decide))
    refine lv_iload_n hx hy dX2_originsIn_57 rfl (lv_at hl 1 rfl) ?_
    exact rI hQ F (v := ()) hI dX2_originsIn_58 (by rw [og_eq hok]; simp [ogS, hk1])
  · have hA := hok.2.2.1 (by omega)
    have hD := hok.2.2.2.2.2.1 hk1
    have xA := hX (f j).2.1 hA
    have lA := hL (f j).2.1 hA
    refine lv_aload_n hx hy dX2_originsIn_0 rfl (lv_at hl 1 rfl) ?_
    refine lv_iload_n hx hy dX2_originsIn_1 rfl (lv_at hl 2 rfl) ?_
    refine zI hI (xV F hI hl (kX0_kindOf l E (u) (b := b) hb (nI j)) M_X2_66 (rX0 F hI (b := b) hb) rfl ⟨Nat.le_of_ble_eq_true rfl, Nat.le_of_ble_eq_true rfl⟩ ⟨Nat.zero_le _, Nat.zero_le _⟩ rfl (Nat.le_of_ble_eq_true rfl) dX2_originsIn_2) (fun r111 v112 H locs hI hp110 => ?_)
    rw [el_lt (by omega) (by decide)] at hp110
    subst hp110
    refine tI (show _ = nI 6 by rw [← hk1]; exact (hR.2 j hj).1) ?_
    refine lv_if_ne (tgt := 12) hx hy dX2_originsIn_5 (by decide) (fun _ => ?_) (fun q => absurd q (by decide))
    refine lv_iconst (v := nI 0) hx hy dX2_originsIn_12 (by decide) ?_
    refine lv_istore_n (lv' := [(3, .int (nI 0)), (0, .ref (eA E 5)), (1, .ref (eA E (10 + 3 * b))), (2, .int (nI j))]) hx hy dX2_originsIn_13 rfl hl (by decide) rfl (fun ls hl => ?_)
    refine lv_aload_n hx hy dX2_originsIn_14 rfl (lv_at hl 2 rfl) ?_
    refine lv_iload_n hx hy dX2_originsIn_15 rfl (lv_at hl 3 rfl) ?_
    refine zI hI (xV F hI hl (kX0_kindOf l E (u) (b := b) hb (nI j)) M_X2_66 (rX0 F hI (b := b) hb) rfl ⟨Nat.le_of_ble_eq_true rfl, Nat.le_of_ble_eq_true rfl⟩ ⟨Nat.zero_le _, Nat.zero_le _⟩ rfl (Nat.le_of_ble_eq_true rfl) dX2_originsIn_16) (fun r114 v115 H locs hI hp113 => ?_)
    rw [el_lt (by omega) (by decide)] at hp113
    subst hp113
    refine tI (show _ = nI 6 by rw [← hk1]; exact (hR.2 j hj).1) ?_
    refine zI hI (xS F hI hl (kX5_linesOfKind l E (u) 6 (by omega)) M_X2_80 rfl ⟨Nat.le_of_ble_eq_true rfl, Nat.le_of_ble_eq_true rfl⟩ ⟨Nat.zero_le _, Nat.zero_le _⟩ rfl (Nat.le_of_ble_eq_true rfl) dX2_originsIn_19) (fun r117 v118 H locs hI hp116 => ?_)
    subst hp116
    refine tI (show _ = nI 1 from rfl) ?_
    refine lv_istore (lv' := [(4, .int (nI 1)), (3, .int (nI 0)), (0, .ref (eA E 5)), (1, .ref (eA E (10 + 3 * b))), (2, .int (nI j))]) hx hy dX2_originsIn_22 hl (by decide) rfl (fun ls hl => ?_)
    refine lv_iconst (v := nI 1) hx hy dX2_originsIn_24 (by decide) ?_
    refine lv_istore (lv' := [(5, .int (nI 1)), (4, .int (nI 1)), (3, .int (nI 0)), (0, .ref (eA E 5)), (1, .ref (eA E (10 + 3 * b))), (2, .int (nI j))]) hx hy dX2_originsIn_25 hl (by decide) rfl (fun ls hl => ?_)
    refine lv_iload hx hy dX2_originsIn_27 (lv_at hl 0 rfl) ?_
    refine lv_iload hx hy dX2_originsIn_29 (lv_at hl 1 rfl) ?_
    refine lv_icmp_gt (tgt := 57) hx hy dX2_originsIn_31 (by decide) (fun q => absurd q (by decide)) (fun _ => ?_)
    refine lv_iload_n hx hy dX2_originsIn_34 rfl (lv_at hl 2 rfl) ?_
    refine lv_aload_n hx hy dX2_originsIn_35 rfl (lv_at hl 3 rfl) ?_
    refine gX2_origins F hI L_X2_18 dX2_originsIn_36 ?_
    refine lv_aload_n hx hy dX2_originsIn_39 rfl (lv_at hl 4 rfl) ?_
    refine lv_iload_n hx hy dX2_originsIn_40 rfl (lv_at hl 5 rfl) ?_
    refine lv_iload hx hy dX2_originsIn_41 (lv_at hl 0 rfl) ?_
    refine zI hI (xV F hI hl (kX0_numberOf l E (u) (b := b) hb (nI j) (nI 1)) M_X2_60 (rX0 F hI (b := b) hb) rfl ⟨Nat.le_of_ble_eq_true rfl, Nat.le_of_ble_eq_true rfl⟩ ⟨Nat.zero_le _, Nat.zero_le _⟩ rfl (Nat.le_of_ble_eq_true rfl) dX2_originsIn_43) (fun r120 v121 H locs hI hp119 => ?_)
    rw [show nI j * nI 3 + nI 1 - nI 1 = nI (3 * j) from ix3 j 0, el_lt (by omega) (by decide)] at hp119
    subst hp119
    refine tI (hR.2 j hj).2.1 ?_
    refine zI hI (xS F hI hl (kX5_elementAt l E (u) iX2_origins (by decide) (nI ((f j).2.1))) M_X2_41 rfl ⟨Nat.le_of_ble_eq_true rfl, Nat.le_of_ble_eq_true rfl⟩ ⟨Nat.zero_le _, Nat.zero_le _⟩ rfl (Nat.le_of_ble_eq_true rfl) dX2_originsIn_46) (fun r123 v124 H locs hI hp122 => ?_)
    rw [el_lt (by omega) (by decide)] at hp122
    subst hp122
    refine tI xA ?_
    refine lv_ior hx hy dX2_originsIn_49 ?_
    refine tI (nI_or (0) (og f (f j).2.1)) ?_
    refine lv_istore_n (lv' := [(3, .int (nI (0 ||| (og f (f j).2.1)))), (5, .int (nI 1)), (4, .int (nI 1)), (0, .ref (eA E 5)), (1, .ref (eA E (10 + 3 * b))), (2, .int (nI j))]) hx hy dX2_originsIn_50 rfl hl (by decide) rfl (fun ls hl => ?_)
    refine lv_iinc (v := nI 2) (lv' := [(5, .int (nI 2)), (3, .int (nI (0 ||| (og f (f j).2.1)))), (4, .int (nI 1)), (0, .ref (eA E 5)), (1, .ref (eA E (10 + 3 * b))), (2, .int (nI j))]) hx hy dX2_originsIn_51 hl (k := 1) rfl rfl (by decide) rfl (fun ls hl => ?_)
    refine lv_goto (tgt := 27) hx hy dX2_originsIn_54 (by decide) ?_
    refine lv_iload hx hy dX2_originsIn_27 (lv_at hl 0 rfl) ?_
    refine lv_iload hx hy dX2_originsIn_29 (lv_at hl 2 rfl) ?_
    refine lv_icmp_gt (tgt := 57) hx hy dX2_originsIn_31 (by decide) (fun _ => ?_) (fun q => absurd q (by decide))
    refine lv_iload_n hx hy dX2_originsIn_57 rfl (lv_at hl 1 rfl) ?_
    exact rI hQ F (v := ()) hI dX2_originsIn_58 (by rw [og_eq hok]; simp [ogS, hk1])
set_option maxHeartbeats 400000 in
set_option maxRecDepth 100000 in
theorem kX2_workOut (l : Launch) (E : EV) (u : SS) {b n : Nat} {f : Nat → Ln} (hb : b < 7) (hR : RepL b u.1 n f) (h16 : n ≤ 16) (hok : ∀ j, j < n → LnOk j (f j)) : CT l yX2_workOut cX2_workOut 3 none (Rm 3 68) [.ref (eA E 5), .ref (eA E (10 + 3 * b))] E u (Q_v E (fun c => FigI n f c ∧ FigO u.1 c) (fun (c : CF) => (c, u.2))) := by
  refine mstart RX2 (by decide +kernel) rfl (Nat.le_of_ble_eq_true rfl) ?_
  intro p e s m args below meth co ls Q hQ F hI hl
  have hx := F.1
  have hy := F.2.1
  have hl : lv_has ls 3 [(0, .ref (eA E 5)), (1, .ref (eA E (10 + 3 * b)))] := hl
  have hl3 := ex_le hok
  have hl4 : ∀ j, j < n → dp f j ≤ 16 := fun j hj => by have := dp_le hok j hj; omega
  have hl5 := og_lt h16 hok
  refine lv_iconst (v := nI 0) hx hy dX2_workOut_0 (by decide) ?_
  refine lv_istore_n (lv' := [(2, .int (nI 0)), (0, .ref (eA E 5)), (1, .ref (eA E (10 + 3 * b)))]) hx hy dX2_workOut_1 rfl hl (by decide) rfl (fun ls hl => ?_)
  have lp1 : ∀ (fu : Nat) (i : Nat) (c : CF), (i ≤ n) → (n - i < fu) → (∀ a, a < i → c 3 a = nI (ex f a)) → (∀ a, a < i → c 4 a = nI (dp f a)) → (∀ a, a < i → c 5 a = nI (og f a)) → (FigO u.1 c) →  ∀ (H : Heap) (locs : List Loc) (ls : Array Slot), Iv E s H locs ((c, u.2)) → lv_has ls 3 [(2, .int (nI i)), (0, .ref (eA E 5)), (1, .ref (eA E (10 + 3 * b)))] → W p l e (Rm 3 68) s m args below meth co H locs 0 0 Q (F0 m 2 ls []) := by
    intro fu
    induction fu with
    | zero => intro i c hi hf hF3 hF4 hF5 hO; exact absurd hf (Nat.not_lt_zero _)
    | succ fu ih =>
      intro i c hi hf hF3 hF4 hF5 hO H locs ls hI hl
      have hRc : RepL b c n f := hR.fig hO
      have ih_2 := ih
      refine lv_iload_n hx hy dX2_workOut_2 rfl (lv_at hl 0 rfl) ?_
      refine lv_aload_n hx hy dX2_workOut_3 rfl (lv_at hl 2 rfl) ?_
      refine gX0_size F hI (b := b) hb L_X2_21 dX2_workOut_4 ?_
      refine tI (show _ = c 2 b from rfl) ?_
      refine tI hRc.1 ?_
      refine lv_icmp_ge (tgt := 58) hx hy dX2_workOut_7 (by decide) (fun h2 => ?_) (fun h2 => ?_)
      · have h2 : n ≤ i := (nI_leI (a := n) (b := i) (by omega) (by omega)).mp h2
        exact rV hQ F (v := c) hI dX2_workOut_58 (by have e9 : i = n := (by omega); rw [e9] at hF3 hF4 hF5; exact ⟨⟨hF3, hF4, hF5⟩, hO⟩)
      · have h2 : i < n := Nat.lt_of_not_le (fun q9 => h2 ((nI_leI (a := n) (b := i) (by omega) (by omega)).mpr q9))
        refine lv_aload_n hx hy dX2_workOut_10 rfl (lv_at hl 1 rfl) ?_
        refine gX2_exactShares F hI L_X2_9 dX2_workOut_11 ?_
        refine lv_iload_n hx hy dX2_workOut_14 rfl (lv_at hl 0 rfl) ?_
        refine lv_aload_n hx hy dX2_workOut_15 rfl (lv_at hl 1 rfl) ?_
        refine lv_aload_n hx hy dX2_workOut_16 rfl (lv_at hl 2 rfl) ?_
        refine lv_iload_n hx hy dX2_workOut_17 rfl (lv_at hl 0 rfl) ?_
        refine zI hI (xV F hI hl (kX2_exactShareIn l E ((c, u.2)) (b := b) (n := n) (f := f) hb hRc h16 i (by omega) (hok i (by omega)) (fun a ha => hF3 a ha) (fun a ha => hl3 a (by omega))) M_X2_27 (rX2 F hI) rfl ⟨Nat.le_of_ble_eq_true rfl, Nat.le_of_ble_eq_true rfl⟩ ⟨Nat.zero_le _, Nat.zero_le _⟩ rfl (Nat.le_of_ble_eq_true rfl) dX2_workOut_18) (fun r4 v5 H locs hI hp3 => ?_)
        subst hp3
        refine zV hI (xS F hI hl (kX5_setElement l E ((c, u.2)) iX2_exactShares (by decide) (nI i) (nI (ex f i))) M_X2_31 rfl ⟨Nat.le_of_ble_eq_true rfl, Nat.le_of_ble_eq_true rfl⟩ ⟨Nat.zero_le _, Nat.zero_le _⟩ rfl (Nat.le_of_ble_eq_true rfl) dX2_workOut_21) (fun v8 H locs hI hp6 => ?_)
        rw [stE_lt (by omega) (by decide)] at hp6
        subst hp6
        obtain ⟨c9, ec9⟩ : ∃ z9 : CF, z9 = up c 3 i (nI (ex f i)) := ⟨_, rfl⟩
        have hI : Iv E s H locs (c9, u.2) := by rw [ec9]; exact hI
        have kf10 : c9 2 b = nI n := by rw [ec9, up_at, if_neg (by omega)]; exact hRc.1
        have hO12 : FigO u.1 c9 := by rw [ec9]; exact hO.up (by omega)
        have hR11 : RepL b c9 n f := hR.fig hO12
        refine lv_aload_n hx hy dX2_workOut_24 rfl (lv_at hl 1 rfl) ?_
        refine gX2_depths F hI L_X2_15 dX2_workOut_25 ?_
        refine lv_iload_n hx hy dX2_workOut_28 rfl (lv_at hl 0 rfl) ?_
        refine lv_aload_n hx hy dX2_workOut_29 rfl (lv_at hl 1 rfl) ?_
        refine lv_aload_n hx hy dX2_workOut_30 rfl (lv_at hl 2 rfl) ?_
        refine lv_iload_n hx hy dX2_workOut_31 rfl (lv_at hl 0 rfl) ?_
        refine zI hI (xV F hI hl (kX2_depthIn l E ((c9, u.2)) (b := b) (n := n) (f := f) hb hR11 h16 i (by omega) (hok i (by omega)) (fun a ha => (show c9 4 a = c 4 a by rw [ec9, up_at, if_neg (by omega)]).trans (hF4 a ha)) (fun a ha => hl4 a (by omega))) M_X2_35 (rX2 F hI) rfl ⟨Nat.le_of_ble_eq_true rfl, Nat.le_of_ble_eq_true rfl⟩ ⟨Nat.zero_le _, Nat.zero_le _⟩ rfl (Nat.le_of_ble_eq_true rfl) dX2_workOut_32) (fun r14 v15 H locs hI hp13 => ?_)
        subst hp13
        refine zV hI (xS F hI hl (kX5_setElement l E ((c9, u.2)) iX2_depths (by decide) (nI i) (nI (dp f i))) M_X2_31 rfl ⟨Nat.le_of_ble_eq_true rfl, Nat.le_of_ble_eq_true rfl⟩ ⟨Nat.zero_le _, Nat.zero_le _⟩ rfl (Nat.le_of_ble_eq_true rfl) dX2_workOut_35) (fun v18 H locs hI hp16 => ?_)
        rw [stE_lt (by omega) (by decide)] at hp16
        subst hp16
        obtain ⟨c19, ec19⟩ : ∃ z9 : CF, z9 = up c9 4 i (nI (dp f i)) := ⟨_, rfl⟩
        have hI : Iv E s H locs (c19, u.2) := by rw [ec19]; exact hI
        have kf20 : c19 2 b = nI n := by rw [ec19, up_at, if_neg (by omega)]; exact kf10
        have hO22 : FigO u.1 c19 := by rw [ec19]; exact hO12.up (by omega)
        have hR21 : RepL b c19 n f := hR.fig hO22
        refine lv_aload_n hx hy dX2_workOut_38 rfl (lv_at hl 1 rfl) ?_
        refine gX2_origins F hI L_X2_18 dX2_workOut_39 ?_
        refine lv_iload_n hx hy dX2_workOut_42 rfl (lv_at hl 0 rfl) ?_
        refine lv_aload_n hx hy dX2_workOut_43 rfl (lv_at hl 1 rfl) ?_
        refine lv_aload_n hx hy dX2_workOut_44 rfl (lv_at hl 2 rfl) ?_
        refine lv_iload_n hx hy dX2_workOut_45 rfl (lv_at hl 0 rfl) ?_
        refine zI hI (xV F hI hl (kX2_originsIn l E ((c19, u.2)) (b := b) (n := n) (f := f) hb hR21 h16 i (by omega) (hok i (by omega)) (fun a ha => (show c19 5 a = c 5 a by rw [ec19, up_at, if_neg (by omega), ec9, up_at, if_neg (by omega)]).trans (hF5 a ha)) (fun a ha => hl5 a (by omega))) M_X2_38 (rX2 F hI) rfl ⟨Nat.le_of_ble_eq_true rfl, Nat.le_of_ble_eq_true rfl⟩ ⟨Nat.zero_le _, Nat.zero_le _⟩ rfl (Nat.le_of_ble_eq_true rfl) dX2_workOut_46) (fun r24 v25 H locs hI hp23 => ?_)
        subst hp23
        refine zV hI (xS F hI hl (kX5_setElement l E ((c19, u.2)) iX2_origins (by decide) (nI i) (nI (og f i))) M_X2_31 rfl ⟨Nat.le_of_ble_eq_true rfl, Nat.le_of_ble_eq_true rfl⟩ ⟨Nat.zero_le _, Nat.zero_le _⟩ rfl (Nat.le_of_ble_eq_true rfl) dX2_workOut_49) (fun v28 H locs hI hp26 => ?_)
        rw [stE_lt (by omega) (by decide)] at hp26
        subst hp26
        obtain ⟨c29, ec29⟩ : ∃ z9 : CF, z9 = up c19 5 i (nI (og f i)) := ⟨_, rfl⟩
        have hI : Iv E s H locs (c29, u.2) := by rw [ec29]; exact hI
        have kf30 : c29 2 b = nI n := by rw [ec29, up_at, if_neg (by omega)]; exact kf20
        have hO32 : FigO u.1 c29 := by rw [ec29]; exact hO22.up (by omega)
        have hR31 : RepL b c29 n f := hR.fig hO32
        refine lv_iinc (v := nI (i + 1)) (lv' := [(2, .int (nI (i + 1))), (0, .ref (eA E 5)), (1, .ref (eA E (10 + 3 * b)))]) hx hy dX2_workOut_52 hl (k := 0) rfl (nI_add (i) 1) (by decide) rfl (fun ls hl => ?_)
        refine lv_goto (tgt := 2) hx hy dX2_workOut_55 (by decide) ?_
        exact ih_2 (i + 1) c29 (by omega) (by omega) (fun a ha => by rw [ec29, up_at, ec19, up_at, ec9, up_at]; by_cases e9 : a = i; rw [e9]; simp; rw [if_neg (by omega), if_neg (by omega), if_neg (by omega)]; exact hF3 a (by omega)) (fun a ha => by rw [ec29, up_at, ec19, up_at, ec9, up_at]; by_cases e9 : a = i; rw [e9]; simp; rw [if_neg (by omega), if_neg (by omega), if_neg (by omega)]; exact hF4 a (by omega)) (fun a ha => by rw [ec29, up_at, ec19, up_at, ec9, up_at]; by_cases e9 : a = i; rw [e9]; simp; rw [if_neg (by omega), if_neg (by omega), if_neg (by omega)]; exact hF5 a (by omega)) hO32 _ _ _ hI (lv_sub hl [0, 1, 2] rfl)
  exact lp1 (n + 1) 0 u.1 (Nat.zero_le _) (by omega) (fun a ha => absurd ha (Nat.not_lt_zero a)) (fun a ha => absurd ha (Nat.not_lt_zero a)) (fun a ha => absurd ha (Nat.not_lt_zero a)) (fun _ _ _ _ _ => rfl) _ _ _ hI (lv_sub hl [0, 1, 2] rfl)
end
section
/-! the text: words, numbers, lines, all of it -/
def chL : List (List Nat) := [[115, 111, 117, 114, 99, 101], [97, 110, 100], [111, 114], [120, 111, 114], [109, 117, 120], [110, 111, 116], [100, 101, 108, 97, 121]]
def chW (k j : Nat) : Nat := (chL.getD k []).getD j 0
def lenW : List Nat := [6, 3, 2, 3, 3, 3, 5]
def lnW (k : Nat) : Nat := lenW.getD k 0
abbrev Tx : Type := Nat × (Nat → Nat)
/-- character c stands at p -/
def isC (z : Tx) (p c : Nat) : Prop := p < z.1 ∧ z.2 p = c
/-- how much of word k stands at p, from its place i on -/
def mtc (z : Tx) (p k : Nat) : Nat → Nat → Nat
  | i, 0 => i
  | i, fu + 1 => if p + i < z.1 ∧ z.2 (p + i) = chW k i then mtc z p k (i + 1) fu else i
def mt (z : Tx) (p k : Nat) : Nat := mtc z p k 0 (lnW k)
/-- the kind whose word begins with the character at p, from kind k on -/
def kdF (z : Tx) (p : Nat) : Nat → Nat → Option Nat
  | _, 0 => none
  | k, fu + 1 => if p < z.1 ∧ z.2 p = chW k 0 then some k else kdF z p (k + 1) fu
def kd (z : Tx) (p : Nat) : Option Nat := kdF z p 0 7
/-- digits behind a number, while they are allowed -/
def dl (z : Tx) (most : Nat) : Nat → Nat → Nat → Nat × Nat
  | 0, v, q => (v, q)
  | fu + 1, v, q => if 0 < v ∧ q < z.1 ∧ 48 ≤ z.2 q ∧ z.2 q ≤ 57 ∧ v * 10 + (z.2 q - 48) ≤ most then dl z most fu (v * 10 + (z.2 q - 48)) (q + 1) else (v, q)
/-- a number at p -/
def dg (z : Tx) (least most p : Nat) : Option Nat × Nat :=
  if p < z.1 ∧ 48 + least ≤ z.2 p ∧ z.2 p ≤ 57 then (some (dl z most (z.1 - (p + 1)) (z.2 p - 48) (p + 1)).1, (dl z most (z.1 - (p + 1)) (z.2 p - 48) (p + 1)).2) else (none, p)
/-- a blank and a number -/
def bn (z : Tx) (least most p : Nat) : Option Nat × Nat := if p < z.1 ∧ z.2 p = 32 then dg z least most (p + 1) else (none, p)
def npK (k : Nat) : Nat := ([2, 2, 2, 2, 3, 1, 2] : List Nat).getD k 0
def nlK (k : Nat) : Nat := ([0, 2, 2, 2, 3, 1, 1] : List Nat).getD k 0
def loK (k w : Nat) : Nat := if w = 2 ∧ (k = 0 ∨ k = 6) then 1 else 0
def hiK (k w : Nat) : Nat := if w ≤ nlK k then 15 else if k = 6 then 60 else if w = 1 then 256 else 255
def setN (q : Ln) (w v : Nat) : Ln := if w = 1 then (q.1, v, q.2.2.1, q.2.2.2) else if w = 2 then (q.1, q.2.1, v, q.2.2.2) else (q.1, q.2.1, q.2.2.1, v)
/-- the numbers of a line, from the w-th on -/
def nums (z : Tx) (k : Nat) : Nat → Nat → Nat → Ln → Option Ln × Nat
  | 0, _, p, q => (some q, p)
  | fu + 1, w, p, q => if npK k < w then (some q, p) else
      match bn z (loK k w) (hiK k w) p with
      | (none, p') => (none, p')
      | (some v, p') => nums z k fu (w + 1) p' (setN q w v)
/-- a line at p -/
def lin (z : Tx) (p : Nat) : Option Ln × Nat :=
  match kd z p with
  | none => (none, p)
  | some k => if mt z p k = lnW k then nums z k 4 1 (p + mt z p k) (k, 0, 0, 0) else (none, p + mt z p k)
/-- all lines, from p on, m of them read: the fault, how many, which -/
def allL (z : Tx) : Nat → Nat → Nat → (Nat → Ln) → Option Nat × Nat × (Nat → Ln)
  | 0, p, m, f => (some p, m, f)
  | fu + 1, p, m, f =>
      match lin z p with
      | (none, p') => (some p', m, f)
      | (some q, p') => if p' = z.1 then (none, m + 1, fun j => if j = m then q else f j)
          else if p' < z.1 ∧ z.2 p' = 59 then allL z fu (p' + 1) (m + 1) (fun j => if j = m then q else f j)
          else (some p', m + 1, fun j => if j = m then q else f j)
def rdT (z : Tx) : Option Nat × Nat × (Nat → Ln) := allL z 81 0 0 (fun _ => (0, 0, 0, 0))
theorem mtc_le (z : Tx) (p k : Nat) : ∀ fu i, i ≤ mtc z p k i fu ∧ mtc z p k i fu ≤ i + fu
  | 0, i => ⟨Nat.le_refl _, Nat.le_refl _⟩
  | fu + 1, i => by
    unfold mtc
    split
    · have := mtc_le z p k fu (i + 1)
      omega
    · omega
theorem mtc_in (z : Tx) (p k : Nat) : ∀ fu i, p + i ≤ z.1 → p + mtc z p k i fu ≤ z.1
  | 0, i, h => h
  | fu + 1, i, h => by
    unfold mtc
    split
    · exact mtc_in z p k fu (i + 1) (by omega)
    · exact h
theorem dl_le (z : Tx) (most : Nat) : ∀ fu v q, v ≤ most → q ≤ z.1 → (dl z most fu v q).1 ≤ most ∧ q ≤ (dl z most fu v q).2 ∧ (dl z most fu v q).2 ≤ z.1 ∧ v ≤ (dl z most fu v q).1
  | 0, v, q, h, h2 => ⟨h, Nat.le_refl _, h2, Nat.le_refl _⟩
  | fu + 1, v, q, h, h2 => by
    unfold dl
    split
    · rename_i hc
      have := dl_le z most fu (v * 10 + (z.2 q - 48)) (q + 1) hc.2.2.2.2 (by omega)
      omega
    · exact ⟨h, Nat.le_refl _, h2, Nat.le_refl _⟩
theorem up_up (c : CF) (r i : Nat) (v w : Int32) : up (up c r i v) r i w = up c r i w := by
  funext q j
  rw [up_at, up_at, up_at]
  split <;> rfl
theorem up_self (c : CF) (r i : Nat) (v : Int32) (h : c r i = v) : up c r i v = c := by
  funext q j
  rw [up_at]
  split
  · rename_i hc
    rw [hc.1, hc.2, h]
  · rfl
theorem chW_lt : ∀ k, k < 7 → ∀ j, j < lnW k → chW k j < 128 := by decide
theorem lnW_pos : ∀ k, k < 7 → 2 ≤ lnW k ∧ lnW k ≤ 6 := by decide
theorem nar_ch {n : Nat} (h : n < 65536) : narrow .char (.int (nI n)) = .int (nI n) ∧ vp_nar .char (nI n) = nI n := by
  have h1 := (pk_charN h).1
  refine ⟨h1, ?_⟩
  unfold vp_nar
  rw [h1]
/-- what a bench holds of the text -/
def TxC (c : CF) (z : Tx) : Prop := c 0 3 = nI z.1 ∧ z.1 ≤ 80 ∧ ∀ i, i < z.1 → c 6 i = nI (z.2 i) ∧ z.2 i < 65536
theorem TxC.up {c : CF} {z : Tx} {r i : Nat} {v : Int32} (h : TxC c z) (h1 : ¬ (r = 0 ∧ i = 3)) (h2 : r ≠ 6) : TxC (up c r i v) z := by
  refine ⟨?_, h.2.1, fun j hj => ?_⟩
  · rw [up_at, if_neg (by omega)]
    exact h.1
  · rw [up_at, if_neg (by omega)]
    exact h.2.2 j hj
theorem mtc_step {z : Tx} {p k i : Nat} (hi : i < lnW k) (h : p + i < z.1 ∧ z.2 (p + i) = chW k i) : mtc z p k i (lnW k - i) = mtc z p k (i + 1) (lnW k - (i + 1)) := by
  obtain ⟨d, hd⟩ : ∃ d, lnW k - i = d + 1 := ⟨lnW k - i - 1, by omega⟩
  rw [hd, show lnW k - (i + 1) = d from by omega]
  exact if_pos h
theorem mtc_stop {z : Tx} {p k i : Nat} (hi : i < lnW k) (h : ¬ (p + i < z.1 ∧ z.2 (p + i) = chW k i)) : mtc z p k i (lnW k - i) = i := by
  obtain ⟨d, hd⟩ : ∃ d, lnW k - i = d + 1 := ⟨lnW k - i - 1, by omega⟩
  rw [hd]
  exact if_neg h
end
section
def kdI (o : Option Nat) : Int32 := match o with | none => -1 | some k => nI k
def digI (z : Tx) (a : Nat) : Int32 := if a < z.1 ∧ 48 ≤ z.2 a ∧ z.2 a ≤ 57 then nI (z.2 a - 48) else -1
theorem m1_ge {n : Nat} (h : n < 2 ^ 31) : ¬ nI n ≤ (-1 : Int32) := by
  rw [ile, nT h]
  have e : (-1 : Int32).toInt = -1 := rfl
  omega
theorem m1_ne {n : Nat} (h : n < 2 ^ 31) : ¬ nI n = (-1 : Int32) := by
  intro q
  have e : (-1 : Int32).toInt = -1 := rfl
  rw [← q, nT h] at e
  omega
theorem kdF_hit {z : Tx} {a k : Nat} (hk : k < 7) (h : a < z.1 ∧ z.2 a = chW k 0) : kdF z a k (7 - k) = some k := by
  obtain ⟨d, hd⟩ : ∃ d, 7 - k = d + 1 := ⟨6 - k, by omega⟩
  rw [hd]
  exact if_pos h
theorem kdF_miss {z : Tx} {a k : Nat} (hk : k < 7) (h : ¬ (a < z.1 ∧ z.2 a = chW k 0)) : kdF z a k (7 - k) = kdF z a (k + 1) (7 - (k + 1)) := by
  obtain ⟨d, hd⟩ : ∃ d, 7 - k = d + 1 := ⟨6 - k, by omega⟩
  rw [hd, show 7 - (k + 1) = d from by omega]
  exact if_neg h
theorem kdF_lt {z : Tx} {a k : Nat} : ∀ fu j, kdF z a j fu = some k → k < j + fu
  | 0, j, h => by cases h
  | fu + 1, j, h => by
    unfold kdF at h
    split at h
    · cases h
      omega
    · have := kdF_lt fu (j + 1) h
      omega
theorem kd_lt {z : Tx} {a k : Nat} (h : kd z a = some k) : k < 7 := by
  have := kdF_lt 7 0 h
  omega
theorem tbl_np : ∀ k, k < 7 → tblF 0 k = nI (npK k) := by decide
theorem tbl_nl : ∀ k, k < 7 → tblF 1 k = nI (nlK k) := by decide
theorem npK_le : ∀ k, k < 7 → npK k ≤ 3 ∧ nlK k ≤ 3 ∧ 5 ≤ lnW k + 2 * npK k := by decide
theorem dl_step {z : Tx} {most v q : Nat} (h : 0 < v ∧ q < z.1 ∧ 48 ≤ z.2 q ∧ z.2 q ≤ 57 ∧ v * 10 + (z.2 q - 48) ≤ most) : dl z most (z.1 - q) v q = dl z most (z.1 - (q + 1)) (v * 10 + (z.2 q - 48)) (q + 1) := by
  obtain ⟨d, hd⟩ : ∃ d, z.1 - q = d + 1 := ⟨z.1 - q - 1, by omega⟩
  rw [hd, show z.1 - (q + 1) = d from by omega]
  exact if_pos h
theorem dl_stop {z : Tx} {most v q : Nat} (n : Nat) (h : ¬ (0 < v ∧ q < z.1 ∧ 48 ≤ z.2 q ∧ z.2 q ≤ 57 ∧ v * 10 + (z.2 q - 48) ≤ most)) : dl z most n v q = (v, q) := by
  cases n with
  | zero => rfl
  | succ n => exact if_neg h
theorem dg_cases {z : Tx} {lo mo a : Nat} (ha : a ≤ z.1) (h9 : 9 ≤ mo) : ((dg z lo mo a).1 = none ∧ (dg z lo mo a).2 = a) ∨ ∃ v, (dg z lo mo a).1 = some v ∧ v ≤ mo ∧ lo ≤ v ∧ a < (dg z lo mo a).2 ∧ (dg z lo mo a).2 ≤ z.1 := by
  unfold dg
  split
  · rename_i h
    refine Or.inr ⟨_, rfl, ?_⟩
    have := dl_le z mo (z.1 - (a + 1)) (z.2 a - 48) (a + 1) (by omega) (by omega)
    refine ⟨this.1, ?_, by show a < _; omega, by exact this.2.2.1⟩
    have h2 := this.2.2.2
    have h3 := h.2.1
    omega
  · exact Or.inl ⟨rfl, rfl⟩
/-- all but the spare bench's lines and the place is as it was -/
def OthT (c0 c : CF) : Prop := ∀ q i, q ≠ 22 → q ≠ 32 → ¬ (q = 2 ∧ i = 2) → ¬ (q = 0 ∧ i = 4) → c q i = c0 q i
theorem OthT.rf (c : CF) : OthT c c := fun _ _ _ _ _ _ => rfl
theorem OthT.tr {a b c : CF} (h : OthT a b) (h2 : OthT b c) : OthT a c := fun q i h3 h4 h5 h6 => (h2 q i h3 h4 h5 h6).trans (h q i h3 h4 h5 h6)
theorem OthT.up {c0 c : CF} (h : OthT c0 c) {r i : Nat} {v : Int32} (hr : r = 22 ∨ r = 32 ∨ (r = 2 ∧ i = 2) ∨ (r = 0 ∧ i = 4)) : OthT c0 (up c r i v) := by
  intro q j h1 h2 h3 h4
  rw [up_at, if_neg (by omega)]
  exact h q j h1 h2 h3 h4
theorem OthT.tx {c0 c : CF} {z : Tx} (h : OthT c0 c) (hT : TxC c0 z) : TxC c z :=
  ⟨(h 0 3 (by omega) (by omega) (by omega) (by omega)).trans hT.1, hT.2.1, fun i hi => ⟨(h 6 i (by omega) (by omega) (by omega) (by omega)).trans (hT.2.2 i hi).1, (hT.2.2 i hi).2⟩⟩
theorem OthT.add {c0 c : CF} (h : OthT c0 c) {m : Nat} {k f s t : Int32} : OthT c0 (addC 2 m k f s t c) := fun q i h1 h2 h3 h4 => (addC_oth 2 m k f s t c q i h1 h2 h3).trans (h q i h1 h2 h3 h4)
theorem RepL.place {c : CF} {m : Nat} {f : Nat → Ln} (h : RepL 2 c m f) (v : Int32) : RepL 2 (up c 0 4 v) m f :=
  h.keep (by rw [up_at, if_neg (by omega)]) (fun i => by rw [up_at, if_neg (by omega)]) (fun i => by rw [up_at, if_neg (by omega)])
theorem RepL.line {c : CF} {m k : Nat} {f : Nat → Ln} (h : RepL 2 c m f) : RepL 2 (addC 2 m (nI k) (nI 0) (nI 0) (nI 0) c) (m + 1) (fun j => if j = m then (k, 0, 0, 0) else f j) := by
  refine ⟨addC_s _ _ _ _ _ _ _, fun j hj => ?_⟩
  show LnAt 2 _ j (if j = m then (k, 0, 0, 0) else f j)
  unfold LnAt
  rw [addC_k 2 m (by decide), addC_n 2 m (by decide), addC_n 2 m (by decide), addC_n 2 m (by decide)]
  by_cases e : j = m
  · subst e
    rw [if_pos rfl, if_pos rfl, if_neg (by omega), if_neg (by omega), if_pos rfl, if_neg (by omega), if_pos rfl, if_pos rfl]
    exact ⟨rfl, rfl, rfl, rfl⟩
  · rw [if_neg e, if_neg e, if_neg (by omega), if_neg (by omega), if_neg (by omega), if_neg (by omega), if_neg (by omega), if_neg (by omega), if_neg (by omega), if_neg (by omega), if_neg (by omega)]
    exact h.2 j (by omega)
theorem RepL.num {c : CF} {m w v : Nat} {q : Ln} {f : Nat → Ln} (h : RepL 2 c (m + 1) (fun j => if j = m then q else f j)) (hw : w < 3) : RepL 2 (up c (30 + 2) (3 * m + w) (nI v)) (m + 1) (fun j => if j = m then setN q (w + 1) v else f j) := by
  obtain ⟨h1, h2⟩ := h
  refine ⟨by rw [up_at, if_neg (by omega)]; exact h1, fun j hj => ?_⟩
  have h3 : LnAt 2 c j (if j = m then q else f j) := h2 j hj
  show LnAt 2 _ j (if j = m then setN q (w + 1) v else f j)
  unfold LnAt at h3 ⊢
  rw [up_at, if_neg (by omega), up_at, up_at, up_at]
  by_cases e : j = m
  · subst e
    rw [if_pos rfl] at h3 ⊢
    rcases (show w = 0 ∨ w = 1 ∨ w = 2 by omega) with rfl | rfl | rfl
    · rw [if_pos ⟨rfl, rfl⟩, if_neg (by omega), if_neg (by omega)]
      exact ⟨h3.1, rfl, h3.2.2.1, h3.2.2.2⟩
    · rw [if_neg (by omega), if_pos ⟨rfl, rfl⟩, if_neg (by omega)]
      exact ⟨h3.1, h3.2.1, rfl, h3.2.2.2⟩
    · rw [if_neg (by omega), if_neg (by omega), if_pos ⟨rfl, rfl⟩]
      exact ⟨h3.1, h3.2.1, h3.2.2.1, rfl⟩
  · rw [if_neg e] at h3 ⊢
    rw [if_neg (by omega), if_neg (by omega), if_neg (by omega)]
    exact h3
theorem nums_end {z : Tx} {k w p : Nat} {q : Ln} (fu : Nat) (h : npK k < w) : nums z k fu w p q = (some q, p) := by
  cases fu with
  | zero => rfl
  | succ fu => exact if_pos h
theorem nums_step {z : Tx} {k w p : Nat} {q : Ln} {v p2 : Nat} (h : w + 1 ≤ npK k) (hk : npK k ≤ 3) (hb : bn z (loK k (w + 1)) (hiK k (w + 1)) p = (some v, p2)) : nums z k (4 - w) (w + 1) p q = nums z k (4 - (w + 1)) (w + 1 + 1) p2 (setN q (w + 1) v) := by
  obtain ⟨d, hd⟩ : ∃ d, 4 - w = d + 1 := ⟨3 - w, by omega⟩
  rw [hd, show 4 - (w + 1) = d from by omega]
  show (if npK k < w + 1 then _ else _) = _
  rw [if_neg (by omega), hb]
theorem nums_fail {z : Tx} {k w p : Nat} {q : Ln} {p2 : Nat} (h : w + 1 ≤ npK k) (hk : npK k ≤ 3) (hb : bn z (loK k (w + 1)) (hiK k (w + 1)) p = (none, p2)) : nums z k (4 - w) (w + 1) p q = (none, p2) := by
  obtain ⟨d, hd⟩ : ∃ d, 4 - w = d + 1 := ⟨3 - w, by omega⟩
  rw [hd]
  show (if npK k < w + 1 then _ else _) = _
  rw [if_neg (by omega), hb]
theorem loK_hi (k w : Nat) : loK k w ≤ 1 ∧ 9 ≤ hiK k w ∧ hiK k w ≤ 256 := by
  unfold loK hiK
  refine ⟨?_, ?_, ?_⟩ <;> (repeat' split) <;> omega
def LineP (z : Tx) (a m : Nat) (f : Nat → Ln) (c0 : CF) (r : Int32) (c : CF) : Prop :=
  OthT c0 c ∧ c 0 4 = nI (lin z a).2 ∧ ((lin z a).1 = none ∧ r = 0 ∨ ∃ q, (lin z a).1 = some q ∧ r = 1 ∧ RepL 2 c (m + 1) (fun j => if j = m then q else f j))
theorem bn_cases {z : Tx} {lo mo a : Nat} (ha : a ≤ z.1) (h9 : 9 ≤ mo) : ((bn z lo mo a).1 = none ∧ a ≤ (bn z lo mo a).2 ∧ (bn z lo mo a).2 ≤ z.1) ∨ ∃ v, (bn z lo mo a).1 = some v ∧ v ≤ mo ∧ lo ≤ v ∧ a + 2 ≤ (bn z lo mo a).2 ∧ (bn z lo mo a).2 ≤ z.1 := by
  unfold bn
  split
  · rename_i h
    rcases dg_cases (lo := lo) (mo := mo) (show a + 1 ≤ z.1 by omega) h9 with ⟨h1, h2⟩ | ⟨v, h1, h2, h3, h4, h5⟩
    · exact Or.inl ⟨h1, by omega, by omega⟩
    · exact Or.inr ⟨v, h1, h2, h3, by omega, h5⟩
  · exact Or.inl ⟨rfl, Nat.le_refl _, ha⟩
theorem nums_len {z : Tx} {k : Nat} : ∀ fu w p q, p ≤ z.1 → npK k + 1 ≤ w + fu → (nums z k fu w p q).2 ≤ z.1 ∧ ((nums z k fu w p q).1.isSome = true → p + 2 * (npK k + 1 - w) ≤ (nums z k fu w p q).2)
  | 0, w, p, q, hp, hw => ⟨hp, fun _ => by show p + 2 * (npK k + 1 - w) ≤ p; omega⟩
  | fu + 1, w, p, q, hp, hw => by
    unfold nums
    split
    · rename_i h
      exact ⟨hp, fun _ => by show p + 2 * (npK k + 1 - w) ≤ p; omega⟩
    · rename_i h
      rcases bn_cases (lo := loK k w) (mo := hiK k w) hp (loK_hi k w).2.1 with ⟨h1, h2, h3⟩ | ⟨v, h1, h2, h3, h4, h5⟩
      · rw [show bn z (loK k w) (hiK k w) p = (none, (bn z (loK k w) (hiK k w) p).2) from Prod.ext h1 rfl]
        exact ⟨h3, fun q => by cases q⟩
      · rw [show bn z (loK k w) (hiK k w) p = (some v, (bn z (loK k w) (hiK k w) p).2) from Prod.ext h1 rfl]
        have := nums_len (z := z) (k := k) fu (w + 1) (bn z (loK k w) (hiK k w) p).2 (setN q w v) h5 (by omega)
        refine ⟨this.1, fun e => ?_⟩
        have h6 := this.2 e
        show p + 2 * (npK k + 1 - w) ≤ (nums z k fu (w + 1) (bn z (loK k w) (hiK k w) p).2 (setN q w v)).2
        omega
theorem lin_len {z : Tx} {a : Nat} (ha : a ≤ z.1) : (lin z a).2 ≤ z.1 ∧ ((lin z a).1.isSome = true → a + 5 ≤ (lin z a).2) := by
  unfold lin
  split
  · exact ⟨ha, fun q => by cases q⟩
  · rename_i k hk
    have hk7 := kd_lt hk
    have h1 := mtc_in z a k (lnW k) 0 (by omega)
    split
    · rename_i hm
      have := nums_len (z := z) (k := k) 4 1 (a + mt z a k) (k, 0, 0, 0) h1 (by have := npK_le k hk7; omega)
      refine ⟨this.1, fun e => ?_⟩
      have h6 := this.2 e
      have h7 := npK_le k hk7
      omega
    · exact ⟨h1, fun q => by cases q⟩
theorem allL_fault {z : Tx} {n p m : Nat} {f : Nat → Ln} (h : (lin z p).1 = none) : allL z (n + 1) p m f = (some (lin z p).2, m, f) := by
  show (match lin z p with | (none, p') => _ | (some q, p') => _) = _
  rw [show lin z p = (none, (lin z p).2) from Prod.ext h rfl]
theorem allL_end {z : Tx} {n p m : Nat} {f : Nat → Ln} {q : Ln} (h : (lin z p).1 = some q) (h2 : (lin z p).2 = z.1) : allL z (n + 1) p m f = (none, m + 1, fun j => if j = m then q else f j) := by
  show (match lin z p with | (none, p') => _ | (some q, p') => _) = _
  rw [show lin z p = (some q, (lin z p).2) from Prod.ext h rfl]
  exact if_pos h2
theorem allL_next {z : Tx} {n p m : Nat} {f : Nat → Ln} {q : Ln} (h : (lin z p).1 = some q) (h2 : (lin z p).2 ≠ z.1) (h3 : (lin z p).2 < z.1 ∧ z.2 (lin z p).2 = 59) : allL z (n + 1) p m f = allL z n ((lin z p).2 + 1) (m + 1) (fun j => if j = m then q else f j) := by
  show (match lin z p with | (none, p') => _ | (some q, p') => _) = _
  rw [show lin z p = (some q, (lin z p).2) from Prod.ext h rfl]
  exact (if_neg h2).trans (if_pos h3)
theorem allL_stop {z : Tx} {n p m : Nat} {f : Nat → Ln} {q : Ln} (h : (lin z p).1 = some q) (h2 : (lin z p).2 ≠ z.1) (h3 : ¬ ((lin z p).2 < z.1 ∧ z.2 (lin z p).2 = 59)) : allL z (n + 1) p m f = (some (lin z p).2, m + 1, fun j => if j = m then q else f j) := by
  show (match lin z p with | (none, p') => _ | (some q, p') => _) = _
  rw [show lin z p = (some q, (lin z p).2) from Prod.ext h rfl]
  exact (if_neg h2).trans (if_neg h3)
end
section
/-! the state of both, and what the calls answer -/
abbrev HS : Type := Nat × (Nat → Sg)
abbrev XS : Type := Sg × HS × (Nat × Sg) × Tx
def pushH (h : HS) (z : Sg) : HS := if h.1 < 4 then (h.1 + 1, fun i => if i = h.1 then z else h.2 i) else (4, fun i => if i = 3 then z else h.2 (i + 1))
def actd (X : XS) (z : Sg) : XS := (z, pushH X.2.1 X.1, X.2.2)
def HisOk (h : HS) : Prop := h.1 ≤ 4 ∧ ∀ i, i < h.1 → SgOk (h.2 i)
def XOk (X : XS) : Prop := SgOk X.1 ∧ HisOk X.2.1 ∧ (X.2.2.1.1 ≤ 1 ∧ (X.2.2.1.1 = 1 → SgOk X.2.2.1.2)) ∧ X.2.2.2.1 ≤ 80 ∧ ∀ i, i < X.2.2.2.1 → X.2.2.2.2 i < 65536
theorem HisOk.push {h : HS} {z : Sg} (hh : HisOk h) (hz : SgOk z) : HisOk (pushH h z) := by
  unfold pushH
  obtain ⟨h4, hs⟩ := hh
  split
  · rename_i q
    refine ⟨by show h.1 + 1 ≤ 4; omega, fun i hi => ?_⟩
    have hi : i < h.1 + 1 := hi
    show SgOk (if i = h.1 then z else h.2 i)
    split
    · exact hz
    · exact hs i (by omega)
  · rename_i q
    refine ⟨Nat.le_refl _, fun i hi => ?_⟩
    have hi : i < 4 := hi
    show SgOk (if i = 3 then z else h.2 (i + 1))
    split
    · exact hz
    · exact hs (i + 1) (by omega)
theorem XOk.actd {X : XS} {z : Sg} (h : XOk X) (hz : SgOk z) : XOk (actd X z) := ⟨hz, h.2.1.push h.1, h.2.2⟩
/-! the component's side -/
def HisC (c : CF) (h : HS) (o : Nat) : Prop := o < 4 ∧ c 0 1 = nI o ∧ c 0 2 = nI h.1 ∧ ∀ i, i < h.1 → RepB (3 + (o + i) % 4) c (h.2 i)
def RepC (c : CF) (X : XS) : Prop := RepB 0 c X.1 ∧ (∃ o, HisC c X.2.1 o) ∧ (c 0 0 = nI X.2.2.1.1 ∧ (X.2.2.1.1 = 1 → RepB 1 c X.2.2.1.2)) ∧ TxC c X.2.2.2
def live (q i : Nat) : Prop := (q = 0 ∧ i ≤ 3) ∨ (q = 1 ∧ i ≠ 2) ∨ (q = 2 ∧ i ≠ 2) ∨ q = 6 ∨ (20 ≤ q ∧ q ≠ 22 ∧ q ≤ 26) ∨ (30 ≤ q ∧ q ≠ 32 ∧ q ≤ 36)
theorem RepB.keep {b : Nat} {c c' : CF} {z : Sg} (h : RepB b c z) (h1 : c' 1 b = c 1 b) (h2 : c' 2 b = c 2 b) (h3 : ∀ i, c' (20 + b) i = c (20 + b) i) (h4 : ∀ i, c' (30 + b) i = c (30 + b) i) : RepB b c' z := ⟨h1.trans h.1, h.2.keep h2 h3 h4⟩
theorem TxC.keep {c c' : CF} {z : Tx} (h : TxC c z) (h1 : c' 0 3 = c 0 3) (h2 : ∀ i, c' 6 i = c 6 i) : TxC c' z := ⟨h1.trans h.1, h.2.1, fun i hi => ⟨(h2 i).trans (h.2.2 i hi).1, (h.2.2 i hi).2⟩⟩
theorem HisC.keep {c c' : CF} {h : HS} {o : Nat} (hh : HisC c h o) (hk : ∀ q i, live q i → c' q i = c q i) : HisC c' h o := by
  obtain ⟨h1, h2, h3, h4⟩ := hh
  refine ⟨h1, (hk _ _ (Or.inl ⟨rfl, by decide⟩)).trans h2, (hk _ _ (Or.inl ⟨rfl, by decide⟩)).trans h3, fun i hi => (h4 i hi).keep ?_ ?_ (fun j => ?_) (fun j => ?_)⟩
  · exact hk _ _ (by unfold live; omega)
  · exact hk _ _ (by unfold live; omega)
  · exact hk _ _ (by unfold live; omega)
  · exact hk _ _ (by unfold live; omega)
theorem RepC.keep {c c' : CF} {X : XS} (h : RepC c X) (hk : ∀ q i, live q i → c' q i = c q i) : RepC c' X := by
  obtain ⟨h1, ⟨o, h2⟩, ⟨h3, h4⟩, h5⟩ := h
  refine ⟨h1.keep ?_ ?_ (fun j => ?_) (fun j => ?_), ⟨o, h2.keep hk⟩, ⟨(hk _ _ (Or.inl ⟨rfl, by decide⟩)).trans h3, fun e => (h4 e).keep ?_ ?_ (fun j => ?_) (fun j => ?_)⟩, h5.keep ?_ (fun j => ?_)⟩ <;> exact hk _ _ (by unfold live; omega)
/-- a world that differs in what no call keeps -/
def Scr (c c' : CF) : Prop := ∀ q i, q ≠ 22 → q ≠ 32 → ¬ (q = 2 ∧ i = 2) → ¬ (q = 1 ∧ i = 2) → ¬ (q = 0 ∧ i = 4) → q ≠ 3 → q ≠ 4 → q ≠ 5 → c' q i = c q i
def SameM (c c' : CF) : Prop := ∀ q i, 40 ≤ q → c' q i = c q i
theorem SameM.rf (c : CF) : SameM c c := fun _ _ _ => rfl
theorem SameM.tr {a b c : CF} (h : SameM a b) (h2 : SameM b c) : SameM a c := fun q i hq => (h2 q i hq).trans (h q i hq)
theorem SameM.up {a c : CF} {r i : Nat} {v : Int32} (h : SameM a c) (hr : r < 40) : SameM a (up c r i v) := fun q j hq => by
  rw [up_at, if_neg (by omega)]
  exact h q j hq
theorem Scr.rf (c : CF) : Scr c c := fun _ _ _ _ _ _ _ _ _ _ => rfl
theorem Scr.tr {a b c : CF} (h : Scr a b) (h2 : Scr b c) : Scr a c := fun q i q1 q2 q3 q4 q5 q6 q7 q8 => (h2 q i q1 q2 q3 q4 q5 q6 q7 q8).trans (h q i q1 q2 q3 q4 q5 q6 q7 q8)
theorem Scr.rep {c c' : CF} {X : XS} (h : RepC c X) (hs : Scr c c') : RepC c' X := h.keep fun q i hl => by
  unfold live at hl
  exact hs q i (by omega) (by omega) (by omega) (by omega) (by omega) (by omega) (by omega) (by omega)
theorem Scr.m {c c' : CF} (hs : Scr c c') : SameM c c' := fun q i hq => hs q i (by omega) (by omega) (by omega) (by omega) (by omega) (by omega) (by omega) (by omega)
theorem OthT.scr {c c' : CF} (h : OthT c c') : Scr c c' := fun q i q1 q2 q3 q4 q5 q6 q7 q8 => h q i q1 q2 q3 q5
theorem FigO.scr {c c' : CF} (h : FigO c c') : Scr c c' := fun q i q1 q2 q3 q4 q5 q6 q7 q8 => h q i q6 q7 q8
/-- a copy into bench b leaves the others -/
theorem CopyOf.oth {b b2 b3 : Nat} {c0 c : CF} {z : Sg} (h : CopyOf b b2 c0 c) (hb : b < 7) (h3 : b3 < 7) (hne : b3 ≠ b) (hz : RepB b3 c0 z) : RepB b3 c z := hz.keep (h.2.2 _ _ (by omega) (by omega) (by omega) (by omega)) (h.2.2 _ _ (by omega) (by omega) (by omega) (by omega)) (fun i => h.2.2 _ _ (by omega) (by omega) (by omega) (by omega)) (fun i => h.2.2 _ _ (by omega) (by omega) (by omega) (by omega))
theorem CopyOf.m {b b2 : Nat} {c0 c : CF} (h : CopyOf b b2 c0 c) (hb : b < 7) : SameM c0 c := fun q i hq => h.2.2 q i (by omega) (by omega) (by omega) (by omega)
theorem RepB.up0 {b : Nat} {c : CF} {z : Sg} {i : Nat} {v : Int32} (h : RepB b c z) : RepB b (up c 0 i v) z := h.keep (by rw [up_at, if_neg (by omega)]) (by rw [up_at, if_neg (by omega)]) (fun j => by rw [up_at, if_neg (by omega)]) (fun j => by rw [up_at, if_neg (by omega)])
theorem TxC.copy {b b2 : Nat} {c0 c : CF} {z : Tx} (h : CopyOf b b2 c0 c) (hb : b < 7) (hz : TxC c0 z) : TxC c z := hz.keep (h.z 3) (fun i => h.2.2 _ _ (by omega) (by omega) (by omega) (by omega))
theorem PushP.rep {o zz : Nat} {c0 c : CF} {X : XS} (h : PushP o zz c0 c) (hz : X.2.1.1 = zz) (hok : XOk X) (hB : RepB 0 c0 X.1) (hH : HisC c0 X.2.1 o) (hS : c0 0 0 = nI X.2.2.1.1 ∧ (X.2.2.1.1 = 1 → RepB 1 c0 X.2.2.1.2)) (hT : TxC c0 X.2.2.2) : RepC c (actd X X.1) ∧ SameM c0 c := by
  subst hz
  obtain ⟨c1, hc, e⟩ := h
  obtain ⟨ho4, ho, hz, hs⟩ := hH
  have hz4 := hok.2.1.1
  have hb : 3 + (o + X.2.1.1) % 4 < 7 := by omega
  have h0 : RepB 0 c1 X.1 := hc.oth hb (by decide) (by omega) hB
  have hn : RepB (3 + (o + X.2.1.1) % 4) c1 X.1 := hc.rep hB hok.1.1
  have hS1 : X.2.2.1.1 = 1 → RepB 1 c1 X.2.2.1.2 := fun q => hc.oth hb (by decide) (by omega) (hS.2 q)
  have hT1 : TxC c1 X.2.2.2 := hT.copy hc hb
  have hs1 : ∀ i, i < X.2.1.1 → (X.2.1.1 < 4 ∨ 1 ≤ i) → RepB (3 + (o + i) % 4) c1 (X.2.1.2 i) := fun i hi h4 => hc.oth hb (by omega) (by omega) (hs i hi)
  by_cases h4 : X.2.1.1 < 4
  · rw [if_pos h4] at e
    subst e
    refine ⟨⟨h0.up0, ⟨o, ho4, ?_, ?_, fun i hi => ?_⟩, ⟨?_, fun q => (hS1 q).up0⟩, hT1.keep ?_ (fun i => ?_)⟩, (hc.m hb).up (by decide)⟩
    · rw [up_at, if_neg (by omega), hc.z]
      exact ho
    · unfold actd pushH
      rw [if_pos h4]
      exact up_s _ _ _ _
    · unfold actd pushH at hi ⊢
      rw [if_pos h4] at hi ⊢
      have hi : i < X.2.1.1 + 1 := hi
      show RepB (3 + (o + i) % 4) _ (if i = X.2.1.1 then X.1 else X.2.1.2 i)
      by_cases e : i = X.2.1.1
      · rw [if_pos e, e]
        exact hn.up0
      · rw [if_neg e]
        exact (hs1 i (by omega) (Or.inl h4)).up0
    · rw [up_at, if_neg (by omega), hc.z]
      exact hS.1
    · rw [up_at, if_neg (by omega)]
    · rw [up_at, if_neg (by omega)]
  · rw [if_neg h4] at e
    subst e
    have hz4 : X.2.1.1 = 4 := by omega
    refine ⟨⟨h0.up0, ⟨(o + 1) % 4, by omega, ?_, ?_, fun i hi => ?_⟩, ⟨?_, fun q => (hS1 q).up0⟩, hT1.keep ?_ (fun i => ?_)⟩, (hc.m hb).up (by decide)⟩
    · exact up_s _ _ _ _
    · unfold actd pushH
      rw [if_neg h4, up_at, if_neg (by omega), hc.z, hz, hz4]
    · unfold actd pushH at hi ⊢
      rw [if_neg h4] at hi ⊢
      have hi : i < 4 := hi
      show RepB (3 + ((o + 1) % 4 + i) % 4) _ (if i = 3 then X.1 else X.2.1.2 (i + 1))
      by_cases e : i = 3
      · rw [if_pos e, show 3 + ((o + 1) % 4 + i) % 4 = 3 + (o + X.2.1.1) % 4 from by omega]
        exact hn.up0
      · rw [if_neg e, show 3 + ((o + 1) % 4 + i) % 4 = 3 + (o + (i + 1)) % 4 from by omega]
        exact (hs1 (i + 1) (by omega) (Or.inr (by omega))).up0
    · rw [up_at, if_neg (by omega), hc.z]
      exact hS.1
    · rw [up_at, if_neg (by omega)]
    · rw [up_at, if_neg (by omega)]
/-- only bench 0 is another one -/
def Onl0 (c c' : CF) : Prop := ∀ q i, q ≠ 20 → q ≠ 30 → ¬ (q = 2 ∧ i = 0) → ¬ (q = 1 ∧ i = 0) → c' q i = c q i
theorem Onl0.rep {c c' : CF} {X : XS} {z : Sg} (h : RepC c X) (ho : Onl0 c c') (hB : RepB 0 c' z) : RepC c' (z, X.2) ∧ SameM c c' := by
  obtain ⟨h1, ⟨o, h2⟩, ⟨h3, h4⟩, h5⟩ := h
  refine ⟨⟨hB, ⟨o, h2.1, (ho _ _ (by omega) (by omega) (by omega) (by omega)).trans h2.2.1, (ho _ _ (by omega) (by omega) (by omega) (by omega)).trans h2.2.2.1, fun i hi => (h2.2.2.2 i hi).keep ?_ ?_ (fun j => ?_) (fun j => ?_)⟩, ⟨(ho _ _ (by omega) (by omega) (by omega) (by omega)).trans h3, fun e => (h4 e).keep ?_ ?_ (fun j => ?_) (fun j => ?_)⟩, h5.keep ?_ (fun j => ?_)⟩, fun q i hq => ?_⟩ <;> exact ho _ _ (by omega) (by omega) (by omega) (by omega)
theorem Onl0.rf (c : CF) : Onl0 c c := fun _ _ _ _ _ _ => rfl
theorem Onl0.up {c0 c : CF} (h : Onl0 c0 c) {r i : Nat} {v : Int32} (hr : r = 20 ∨ r = 30 ∨ (r = 2 ∧ i = 0) ∨ (r = 1 ∧ i = 0)) : Onl0 c0 (up c r i v) := by
  intro q j h1 h2 h3 h4
  rw [up_at, if_neg (by omega)]
  exact h q j h1 h2 h3 h4
theorem CopyOf.onl {b2 : Nat} {c0 c : CF} (h : CopyOf 0 b2 c0 c) : Onl0 c0 c := fun q i h1 h2 h3 h4 => h.2.2 q i (by omega) (by omega) h3 h4
theorem PopP.rep {o zz : Nat} {c0 c : CF} {X : XS} (h : PopP o zz c0 c) (hz : X.2.1.1 = zz + 1) (hok : XOk X) (hB : RepB 0 c0 X.1) (hH : HisC c0 X.2.1 o) (hS : c0 0 0 = nI X.2.2.1.1 ∧ (X.2.2.1.1 = 1 → RepB 1 c0 X.2.2.1.2)) (hT : TxC c0 X.2.2.2) : RepC c (X.2.1.2 zz, (zz, X.2.1.2), X.2.2) ∧ SameM c0 c := by
  obtain ⟨c1, hc, e⟩ := h
  have hn := hc.rep (hH.2.2.2 zz (by omega)) (hok.2.1.2 zz (by omega)).1
  have h9 := Onl0.rep (X := X) ⟨hB, ⟨o, hH⟩, hS, hT⟩ hc.onl hn
  obtain ⟨⟨h1, -, ⟨h3, h4⟩, h5⟩, h6⟩ := h9
  subst e
  refine ⟨⟨h1.up0, ⟨o, hH.1, ?_, up_s _ _ _ _, fun i hi => ?_⟩, ⟨?_, fun q => (h4 q).up0⟩, h5.keep ?_ (fun j => ?_)⟩, h6.up (by decide)⟩
  · rw [up_at, if_neg (by omega), hc.z]
    exact hH.2.1
  · have hi : i < zz := hi
    exact (hc.oth (b3 := 3 + (o + i) % 4) (by decide) (by omega) (by omega) (hH.2.2.2 i (by omega))).up0
  · rw [up_at, if_neg (by omega)]
    exact h3
  · rw [up_at, if_neg (by omega)]
  · rw [up_at, if_neg (by omega)]
theorem RepB.add {c : CF} {z : Sg} {k f s t : Nat} (h : RepB 0 c z) : RepB 0 (addC 0 z.1 (nI k) (nI f) (nI s) (nI t) c) (z.1 + 1, z.2.1, fun j => if j = z.1 then (k, f, s, t) else z.2.2 j) := by
  refine ⟨?_, addC_s _ _ _ _ _ _ _, fun j hj => ?_⟩
  · rw [addC_oth 0 _ _ _ _ _ _ 1 0 (by decide) (by decide) (by decide)]
    exact h.1
  · show LnAt 0 _ j (if j = z.1 then (k, f, s, t) else z.2.2 j)
    have hj : j < z.1 + 1 := hj
    unfold LnAt
    rw [addC_k 0 _ (by decide), addC_n 0 _ (by decide), addC_n 0 _ (by decide), addC_n 0 _ (by decide)]
    by_cases e : j = z.1
    · subst e
      rw [if_pos rfl, if_pos rfl, if_neg (by omega), if_neg (by omega), if_pos rfl, if_neg (by omega), if_pos rfl, if_pos rfl]
      exact ⟨rfl, rfl, rfl, rfl⟩
    · rw [if_neg e, if_neg e, if_neg (by omega), if_neg (by omega), if_neg (by omega), if_neg (by omega), if_neg (by omega), if_neg (by omega), if_neg (by omega), if_neg (by omega), if_neg (by omega)]
      exact h.2.2 j (by omega)
theorem addC_onl {n : Nat} {k f s t : Int32} {c : CF} : Onl0 c (addC 0 n k f s t c) := fun q i h1 h2 h3 _ => addC_oth 0 n k f s t c q i h1 h2 h3
/-- a line's numbers made others -/
def setL (f : Nat → Ln) (j : Nat) (q : Ln) : Nat → Ln := fun i => if i = j then q else f i
theorem RepB.src {b : Nat} {c : CF} {z : Sg} {j x y : Nat} (h : RepB b c z) (hb : b < 7) (hj : j < z.1) (hk : (z.2.2 j).1 = 0) : RepB b (up (up c (30 + b) (3 * j) (nI x)) (30 + b) (3 * j + 1) (nI y)) (z.1, z.2.1, setL z.2.2 j (0, x, y, (z.2.2 j).2.2.2)) := by
  refine ⟨?_, ?_, fun i hi => ?_⟩
  · rw [up_at, if_neg (by omega), up_at, if_neg (by omega)]
    exact h.1
  · rw [up_at, if_neg (by omega), up_at, if_neg (by omega)]
    exact h.2.1
  · have h3 := h.2.2 i hi
    show LnAt b _ i (if i = j then (0, x, y, (z.2.2 j).2.2.2) else z.2.2 i)
    unfold LnAt at h3 ⊢
    rw [up_at, if_neg (by omega), up_at, if_neg (by omega)]
    simp only [up_at]
    by_cases e : i = j
    · subst e
      rw [if_pos rfl, if_neg (by omega), if_pos ⟨trivial, rfl⟩, if_pos ⟨trivial, rfl⟩, if_neg (by omega), if_neg (by omega)]
      exact ⟨hk ▸ h3.1, rfl, rfl, h3.2.2.2⟩
    · rw [if_neg e, if_neg (by omega), if_neg (by omega), if_neg (by omega), if_neg (by omega), if_neg (by omega), if_neg (by omega)]
      exact h3
theorem RepB.drop {c : CF} {z : Sg} {n : Nat} (h : RepB 0 c z) (hn : z.1 = n + 1) : RepB 0 (up c 2 0 (nI n)) (n, z.2) := by
  refine ⟨?_, up_s _ _ _ _, fun i hi => ?_⟩
  · rw [up_at, if_neg (by omega)]
    exact h.1
  · have hi : i < n := hi
    have h3 := h.2.2 i (by omega)
    show LnAt 0 _ i (z.2.2 i)
    unfold LnAt at h3 ⊢
    simp only [up_at]
    rw [if_neg (by omega), if_neg (by omega), if_neg (by omega), if_neg (by omega)]
    exact h3
theorem RepB.len {c : CF} {z : Sg} {n : Nat} (h : RepB 0 c z) : RepB 0 (up c 1 0 (nI n)) (z.1, n, z.2.2) := by
  refine ⟨up_s _ _ _ _, ?_, fun i hi => ?_⟩
  · rw [up_at, if_neg (by omega)]
    exact h.2.1
  · have h3 := h.2.2 i hi
    show LnAt 0 _ i (z.2.2 i)
    unfold LnAt at h3 ⊢
    simp only [up_at]
    rw [if_neg (by omega), if_neg (by omega), if_neg (by omega), if_neg (by omega)]
    exact h3
/-- lines m of g behind the lines -/
def appL (z : Sg) (m : Nat) (g : Nat → Ln) : Sg := (z.1 + m, z.2.1, fun j => if j < z.1 then z.2.2 j else g (j - z.1))
theorem RepB.app {c c' : CF} {z : Sg} {m : Nat} {g : Nat → Ln} (h : RepB 0 c z) (hg : RepL 2 c m g) (hc : CopyP 0 2 z.1 m c c') : RepB 0 c' (appL z m g) ∧ Onl0 c c' := by
  obtain ⟨p1, p2, p3, p4, p5⟩ := hc
  refine ⟨⟨?_, p1, fun j hj => ?_⟩, fun q i h1 h2 h3 _ => p5 q i h1 h2 h3⟩
  · rw [p5 1 0 (by decide) (by decide) (by decide)]
    exact h.1
  · have hj : j < z.1 + m := hj
    show LnAt 0 _ j (if j < z.1 then z.2.2 j else g (j - z.1))
    by_cases e : j < z.1
    · rw [if_pos e]
      have h3 := h.2.2 j e
      unfold LnAt at h3 ⊢
      rw [p3 j e, p4 _ (by omega), p4 _ (by omega), p4 _ (by omega)]
      exact h3
    · rw [if_neg e]
      have h3 := hg.2 (j - z.1) (by omega)
      have h4 := p2 (j - z.1) (by omega)
      have ej : z.1 + (j - z.1) = j := by omega
      rw [ej] at h4
      unfold LnAt at h3 ⊢
      rw [h4.1, show 3 * j = 3 * j + 0 from rfl, h4.2 0 (by omega), h4.2 1 (by omega), h4.2 2 (by omega)]
      exact h3
end
section
abbrev UNK : Int32 := -100000001
abbrev BAD : Int32 := -100000002
abbrev FUL : Int32 := -100000003
abbrev NPO : Int32 := -100000004
abbrev NON : Int32 := -100000005
def withL (X : XS) (x : Int32) (k : Nat → Int32 × XS) : Int32 × XS := match ixO X.1.1 x with | none => (UNK, X) | some j => k j
def withR (X : XS) (a b : Nat) (x : Int32) (k : Nat → Int32 × XS) : Int32 × XS := match rgO a b x with | none => (BAD, X) | some j => k j
theorem withL_n {X : XS} {x : Int32} {k : Nat → Int32 × XS} (h : ixO X.1.1 x = none) : withL X x k = (UNK, X) := by unfold withL; rw [h]
theorem withL_s {X : XS} {x : Int32} {j : Nat} {k : Nat → Int32 × XS} (h : ixO X.1.1 x = some j) : withL X x k = k j := by unfold withL; rw [h]
theorem withR_n {X : XS} {a b : Nat} {x : Int32} {k : Nat → Int32 × XS} (h : rgO a b x = none) : withR X a b x k = (BAD, X) := by unfold withR; rw [h]
theorem withR_s {X : XS} {a b : Nat} {x : Int32} {j : Nat} {k : Nat → Int32 × XS} (h : rgO a b x = some j) : withR X a b x k = k j := by unfold withR; rw [h]
def addL (X : XS) (q : Ln) : Int32 × XS := if X.1.1 = 16 then (FUL, X) else (nI X.1.1, actd X (X.1.1 + 1, X.1.2.1, fun j => if j = X.1.1 then q else X.1.2.2 j))
def a_source (X : XS) (x y : Int32) : Int32 × XS := withR X 0 256 x fun a => withR X 1 255 y fun b => addL X (0, a, b, 0)
def a_gate (X : XS) (k x y : Int32) : Int32 × XS := withL X x fun i => withL X y fun j => withR X 1 3 k fun k => addL X (k, i, j, 0)
def a_choose (X : XS) (x y w : Int32) : Int32 × XS := withL X x fun i => withL X y fun j => withL X w fun k => addL X (4, i, j, k)
def a_turn (X : XS) (x : Int32) : Int32 × XS := withL X x fun i => addL X (5, i, 0, 0)
def a_delay (X : XS) (x y : Int32) : Int32 × XS := withL X x fun i => withR X 1 60 y fun d => addL X (6, i, d, 0)
def a_reseed (X : XS) (x y w : Int32) : Int32 × XS := withL X x fun i => withR X 0 256 y fun a => withR X 1 255 w fun b =>
  if (X.1.2.2 i).1 ≠ 0 then (NPO, X) else if (X.1.2.2 i).2.1 = a ∧ (X.1.2.2 i).2.2.1 = b then (NON, X)
  else (nI (X.1.2.2 i).2.1, actd X (X.1.1, X.1.2.1, setL X.1.2.2 i (0, a, b, (X.1.2.2 i).2.2.2)))
def a_removeLast (X : XS) : Int32 × XS := if X.1.1 = 0 then (NON, X) else (nI (X.1.1 - 1), actd X (X.1.1 - 1, X.1.2))
def a_setLength (X : XS) (x : Int32) : Int32 × XS := withR X 1 1000 x fun n => if X.1.2.1 = n then (NON, X) else (nI X.1.2.1, actd X (X.1.1, n, X.1.2.2))
/-- line k of those read is made of lines ahead of it -/
abbrev ahd (n : Nat) (g : Nat → Ln) (k : Nat) : Prop := (1 ≤ nlK (g k).1 → (g k).2.1 < n + k) ∧ (2 ≤ nlK (g k).1 → (g k).2.2.1 < n + k) ∧ (3 ≤ nlK (g k).1 → (g k).2.2.2 < n + k)
def a_read (X : XS) : Int32 × XS := match (rdT X.2.2.2).1 with
  | some p => (-100000100 - nI p, X)
  | none =>
    if ¬ ∀ k, k < (rdT X.2.2.2).2.1 → ahd X.1.1 (rdT X.2.2.2).2.2 k then (UNK, X)
    else if 16 < X.1.1 + (rdT X.2.2.2).2.1 then (FUL, X) else (nI (X.1.1 + (rdT X.2.2.2).2.1), actd X (appL X.1 (rdT X.2.2.2).2.1 (rdT X.2.2.2).2.2))
def a_type (X : XS) (ch : Nat) : Int32 × XS := if X.2.2.2.1 = 80 then (FUL, X) else (nI (X.2.2.2.1 + 1), (X.1, X.2.1, X.2.2.1, (X.2.2.2.1 + 1, fun i => if i = X.2.2.2.1 then ch else X.2.2.2.2 i)))
def a_clear (X : XS) : Int32 × XS := (nI X.2.2.2.1, (X.1, X.2.1, X.2.2.1, (0, X.2.2.2.2)))
def a_undo (X : XS) : Int32 × XS := if X.2.1.1 = 0 then (NON, X) else (nI (X.2.1.1 - 1), (X.2.1.2 (X.2.1.1 - 1), (X.2.1.1 - 1, X.2.1.2), X.2.2))
def a_keep (X : XS) : Int32 × XS := (nI X.1.1, (X.1, X.2.1, (1, X.1), X.2.2.2))
def a_restore (X : XS) : Int32 × XS := if X.2.2.1.1 = 0 then (NON, X) else (nI X.2.2.1.2.1, actd X X.2.2.1.2)
/-! what is told -/
def cnt (f : Nat → Ln) (j t : Nat) : Nat := fb_ct (bt f j) t
def apt (a b : Nat) : Nat := (a - b) + (b - a)
def errN (f : Nat → Ln) (j t : Nat) : Nat := apt (cnt f j t * 65536 / t) (ex f j)
def tellN (X : XS) (j k : Nat) : Int32 :=
  if k = 0 then nI (X.1.2.2 j).1
  else if k = 1 then (if npK (X.1.2.2 j).1 < 1 then NON else nI (X.1.2.2 j).2.1)
  else if k = 2 then (if npK (X.1.2.2 j).1 < 2 then NON else nI (X.1.2.2 j).2.2.1)
  else if k = 3 then (if npK (X.1.2.2 j).1 < 3 then NON else nI (X.1.2.2 j).2.2.2)
  else if k = 4 then nI (cnt X.1.2.2 j X.1.2.1)
  else if k = 5 then nI (cnt X.1.2.2 j X.1.2.1 * 65536 / X.1.2.1)
  else if k = 6 then nI (ex X.1.2.2 j)
  else if k = 7 then nI (errN X.1.2.2 j X.1.2.1)
  else if k = 8 then nI (dp X.1.2.2 j)
  else nI (fb_ct (fun t => (og X.1.2.2 j).testBit t) 32)
def a_line (X : XS) (x y : Int32) : Int32 × XS := withL X x fun j => withR X 0 9 y fun k => (tellN X j k, X)
def a_bit (X : XS) (x y : Int32) : Int32 × XS := withL X x fun j => withR X 0 999 y fun t => (nI (bN (bt X.1.2.2 j t)), X)
def both (f : Nat → Ln) (i j t : Nat) : Nat := fb_ct (fun k => bt f i k && bt f j k) t
def ovl (f : Nat → Ln) (i j t : Nat) : Int32 := Int64.toInt32 (((lN (both f i j t * t) - lN (cnt f i t * cnt f j t)) * lN 65536) / lN (t * t))
def a_overlap (X : XS) (x y : Int32) : Int32 × XS := withL X x fun i => withL X y fun j => (ovl X.1.2.2 i j X.1.2.1, X)
def a_errorAt (X : XS) (x y : Int32) : Int32 × XS := withL X x fun j => withR X 1 1000 y fun t => (nI (errN X.1.2.2 j t), X)
/-- the greatest length to t with an error beyond b, or 0 -/
def lastF (f : Nat → Ln) (j b : Nat) : Nat → Nat
  | 0 => 0
  | t + 1 => if b < errN f j (t + 1) then t + 1 else lastF f j b t
def a_settles (X : XS) (x y : Int32) : Int32 × XS := withL X x fun j => withR X 0 65536 y fun b => (if lastF X.1.2.2 j b 1000 = 1000 then NON else nI (lastF X.1.2.2 j b 1000 + 1), X)
/-- the error with another seed -/
def seedF (f : Nat → Ln) (i s : Nat) : Nat → Ln := setL f i ((f i).1, (f i).2.1, s, (f i).2.2.2)
def errS (f : Nat → Ln) (i j t s : Nat) : Nat := errN (seedF f i s) j t
/-- of the seeds 1 to k + 1: the best and its error -/
def bstF (f : Nat → Ln) (i j t : Nat) : Nat → Nat × Nat
  | 0 => (1, errS f i j t 1)
  | k + 1 => if errS f i j t (k + 2) < (bstF f i j t k).2 then (k + 2, errS f i j t (k + 2)) else bstF f i j t k
def a_best (X : XS) (x y w : Int32) : Int32 × XS := withL X x fun i => withL X y fun j => withR X 0 1 w fun k =>
  if (X.1.2.2 i).1 ≠ 0 then (NPO, X) else (if k = 0 then nI (bstF X.1.2.2 i j X.1.2.1 254).1 else nI (bstF X.1.2.2 i j X.1.2.1 254).2, X)
def unlF (f : Nat → Ln) (j n : Nat) : Nat := fb_ct (fun t => bt f j (60 + t) != bt f j (60 + t + 255)) n
def a_unlike (X : XS) (x : Int32) : Int32 × XS := withL X x fun j => (nI (unlF X.1.2.2 j 195), X)
def sumE (f : Nat → Ln) (t : Nat) : Nat → Nat
  | 0 => 0
  | n + 1 => sumE f t n + errN f n t
/-- the line with the greatest error of the first n -/
def wrst (f : Nat → Ln) (t : Nat) : Nat → Option (Nat × Nat)
  | 0 => none
  | n + 1 => match wrst f t n with
    | none => some (n, errN f n t)
    | some (w, g) => if g < errN f n t then some (n, errN f n t) else some (w, g)
def wrI (o : Option (Nat × Nat)) : Int32 := match o with | none => NON | some (w, _) => nI w
def cntN (X : XS) (k : Nat) : Int32 :=
  if k = 0 then nI X.1.1 else if k = 1 then nI X.1.2.1 else if k = 2 then nI (fb_ct (fun j => decide ((X.1.2.2 j).1 = 0)) X.1.1)
  else if k = 3 then nI (sumE X.1.2.2 X.1.2.1 X.1.1) else if k = 4 then wrI (wrst X.1.2.2 X.1.2.1 X.1.1) else if k = 5 then nI (mxN (dp X.1.2.2) X.1.1)
  else if k = 6 then nI X.2.1.1 else nI X.2.2.2.1
def a_count (X : XS) (x : Int32) : Int32 × XS := withR X 0 7 x fun k => (cntN X k, X)
/-! all that is well stays well -/
theorem SgOk.add {z : Sg} {q : Ln} (h : SgOk z) (hn : z.1 ≠ 16) (hq : LnOk z.1 q) : SgOk (z.1 + 1, z.2.1, fun j => if j = z.1 then q else z.2.2 j) := by
  refine ⟨by show z.1 + 1 ≤ 16; have := h.1; omega, h.2.1, h.2.2.1, fun j hj => ?_⟩
  have hj : j < z.1 + 1 := hj
  show LnOk j (if j = z.1 then q else z.2.2 j)
  split
  · rename_i e
    rw [e]
    exact hq
  · exact h.2.2.2 j (by omega)
theorem ok_addL {X : XS} {q : Ln} (h : XOk X) (hq : LnOk X.1.1 q) : XOk (addL X q).2 := by
  unfold addL
  split
  · exact h
  · rename_i e
    exact h.actd (h.1.add e hq)
theorem ok_L {X : XS} {x : Int32} {k : Nat → Int32 × XS} (h : XOk X) (hk : ∀ j, j < X.1.1 → XOk (k j).2) : XOk (withL X x k).2 := by
  rcases ixO_cases X.1.1 x (by have := h.1.1; omega) with e | ⟨j, hj, -, e⟩
  · rw [withL_n e]
    exact h
  · rw [withL_s e]
    exact hk j hj
theorem ok_R {X : XS} {a b : Nat} {x : Int32} {k : Nat → Int32 × XS} (h : XOk X) (ha : a < 2 ^ 31) (hb : b < 2 ^ 31) (hk : ∀ j, a ≤ j → j ≤ b → XOk (k j).2) : XOk (withR X a b x k).2 := by
  rcases rgO_cases a b x ha hb with e | ⟨j, h1, h2, -, e⟩
  · rw [withR_n e]
    exact h
  · rw [withR_s e]
    exact hk j h1 h2
theorem ok_source {X : XS} (h : XOk X) (x y : Int32) : XOk (a_source X x y).2 :=
  ok_R h (by decide) (by decide) fun a h1 h2 => ok_R h (by decide) (by decide) fun b h3 h4 => ok_addL h (by unfold LnOk; refine ⟨?_, ?_, ?_, ?_, ?_, ?_, ?_, ?_⟩ <;> simp <;> omega)
theorem ok_gate {X : XS} (h : XOk X) (k x y : Int32) : XOk (a_gate X k x y).2 :=
  ok_L h fun i hi => ok_L h fun j hj => ok_R h (by decide) (by decide) fun k h3 h4 => ok_addL h (by have := h.1.1; unfold LnOk; refine ⟨?_, ?_, ?_, ?_, ?_, ?_, ?_, ?_⟩ <;> simp <;> omega)
theorem ok_choose {X : XS} (h : XOk X) (x y w : Int32) : XOk (a_choose X x y w).2 :=
  ok_L h fun i hi => ok_L h fun j hj => ok_L h fun k hk => ok_addL h (by have := h.1.1; unfold LnOk; refine ⟨?_, ?_, ?_, ?_, ?_, ?_, ?_, ?_⟩ <;> simp <;> omega)
theorem ok_turn {X : XS} (h : XOk X) (x : Int32) : XOk (a_turn X x).2 :=
  ok_L h fun i hi => ok_addL h (by have := h.1.1; unfold LnOk; refine ⟨?_, ?_, ?_, ?_, ?_, ?_, ?_, ?_⟩ <;> simp <;> omega)
theorem ok_delay {X : XS} (h : XOk X) (x y : Int32) : XOk (a_delay X x y).2 :=
  ok_L h fun i hi => ok_R h (by decide) (by decide) fun d h3 h4 => ok_addL h (by have := h.1.1; unfold LnOk; refine ⟨?_, ?_, ?_, ?_, ?_, ?_, ?_, ?_⟩ <;> simp <;> omega)
theorem ok_setL {z : Sg} {i a b : Nat} (h : SgOk z) (hi : i < z.1) (hk : (z.2.2 i).1 = 0) (ha : a ≤ 256) (hb : 1 ≤ b) (hb2 : b ≤ 255) : SgOk (z.1, z.2.1, setL z.2.2 i (0, a, b, (z.2.2 i).2.2.2)) := by
  refine ⟨h.1, h.2.1, h.2.2.1, fun j hj => ?_⟩
  show LnOk j (if j = i then (0, a, b, (z.2.2 i).2.2.2) else z.2.2 j)
  split
  · have := (h.2.2.2 i hi).2.2.2.2.2.2.2
    unfold LnOk
    refine ⟨?_, ?_, ?_, ?_, ?_, ?_, ?_, ?_⟩ <;> simp <;> omega
  · exact h.2.2.2 j hj
theorem ok_reseed {X : XS} (h : XOk X) (x y w : Int32) : XOk (a_reseed X x y w).2 :=
  ok_L h fun i hi => ok_R h (by decide) (by decide) fun a h1 h2 => ok_R h (by decide) (by decide) fun b h3 h4 => by
    show XOk (if _ then _ else _ : Int32 × XS).2
    split
    · exact h
    · split
      · exact h
      · rename_i e _
        exact h.actd (ok_setL h.1 hi (Decidable.of_not_not e) h2 h3 h4)
theorem ok_removeLast {X : XS} (h : XOk X) : XOk (a_removeLast X).2 := by
  unfold a_removeLast
  split
  · exact h
  · exact h.actd ⟨by show X.1.1 - 1 ≤ 16; have := h.1.1; omega, h.1.2.1, h.1.2.2.1, fun j hj => h.1.2.2.2 j (by have : j < X.1.1 - 1 := hj; omega)⟩
theorem ok_setLength {X : XS} (h : XOk X) (x : Int32) : XOk (a_setLength X x).2 :=
  ok_R h (by decide) (by decide) fun n h1 h2 => by
    show XOk (if _ then _ else _ : Int32 × XS).2
    split
    · exact h
    · exact h.actd ⟨h.1.1, h1, h2, h.1.2.2.2⟩
theorem ok_type {X : XS} (h : XOk X) {ch : Nat} (hc : ch < 65536) : XOk (a_type X ch).2 := by
  unfold a_type
  split
  · exact h
  · rename_i e
    refine ⟨h.1, h.2.1, h.2.2.1, by show X.2.2.2.1 + 1 ≤ 80; have := h.2.2.2.1; omega, fun i hi => ?_⟩
    have hi : i < X.2.2.2.1 + 1 := hi
    show (if i = X.2.2.2.1 then ch else X.2.2.2.2 i) < 65536
    split
    · exact hc
    · exact h.2.2.2.2 i (by omega)
theorem ok_clear {X : XS} (h : XOk X) : XOk (a_clear X).2 := ⟨h.1, h.2.1, h.2.2.1, Nat.zero_le _, fun i hi => absurd hi (Nat.not_lt_zero i)⟩
theorem ok_undo {X : XS} (h : XOk X) : XOk (a_undo X).2 := by
  unfold a_undo
  split
  · exact h
  · exact ⟨h.2.1.2 _ (by omega), ⟨by show X.2.1.1 - 1 ≤ 4; have := h.2.1.1; omega, fun i hi => h.2.1.2 i (by have : i < X.2.1.1 - 1 := hi; omega)⟩, h.2.2⟩
theorem ok_keep {X : XS} (h : XOk X) : XOk (a_keep X).2 := ⟨h.1, h.2.1, ⟨Nat.le_refl _, fun _ => h.1⟩, h.2.2.2⟩
theorem ok_restore {X : XS} (h : XOk X) : XOk (a_restore X).2 := by
  unfold a_restore
  split
  · exact h
  · exact h.actd (h.2.2.1.2 (by have := h.2.2.1.1; omega))
/-- a line that is read is well but for its place -/
def LnRd (q : Ln) : Prop := q.1 ≤ 6 ∧ (q.1 = 0 → q.2.1 ≤ 256 ∧ 1 ≤ q.2.2.1 ∧ q.2.2.1 ≤ 255) ∧ (q.1 = 6 → 1 ≤ q.2.2.1 ∧ q.2.2.1 ≤ 60) ∧ q.2.2.1 ≤ 256 ∧ q.2.2.2 ≤ 256 ∧ q.2.1 ≤ 256
theorem LnRd.ok {n : Nat} {k : Nat} {g : Nat → Ln} (h : LnRd (g k)) (ha : ahd n g k) : LnOk (n + k) (g k) := by
  obtain ⟨h1, h2, h3, h4, h5, h6⟩ := h
  obtain ⟨a1, a2, a3⟩ := ha
  rcases (show (g k).1 = 0 ∨ (g k).1 = 1 ∨ (g k).1 = 2 ∨ (g k).1 = 3 ∨ (g k).1 = 4 ∨ (g k).1 = 5 ∨ (g k).1 = 6 by omega) with e | e | e | e | e | e | e <;> rw [e] at a1 a2 a3 h2 h3 <;> unfold LnOk <;> rw [e] <;> refine ⟨by omega, ?_, ?_, ?_, ?_, ?_, h4, h5⟩ <;> first | exact h2 | exact h3 | (intro _; exact a1 (by decide)) | (intro _ _; exact a2 (by decide)) | (intro _; exact a3 (by decide)) | (intro _ _; omega) | (intro _; omega) | omega
end
section
set_option maxHeartbeats 400000 in
set_option maxRecDepth 100000 in
theorem kX5_addLine (l : Launch) (E : EV) (u : SS) {X : XS} (hC : RepC u.1 X) (hX : XOk X) (k f s_ t : Nat) : CT l yX5_addLine cX5_addLine 5 (some .int) (Rm 6 134) [.ref (eA E 0), .int (nI k), .int (nI f), .int (nI s_), .int (nI t)] E u (Q_i E (fun r v => r = (addL X (k, f, s_, t)).1 ∧ RepC v.1 (addL X (k, f, s_, t)).2 ∧ SameM u.1 v.1) (fun (v : SS) => v)) := by
  refine mstart RX5 (by decide +kernel) rfl (Nat.le_of_ble_eq_true rfl) ?_
  intro p e s m args below meth co ls Q hQ F hI hl
  have hx := F.1
  have hy := F.2.1
  have hl : lv_has ls 5 [(0, .ref (eA E 0)), (1, .int (nI k)), (2, .int (nI f)), (3, .int (nI s_)), (4, .int (nI t))] := hl
  have hC2 := hC
  obtain ⟨hB, ⟨o, hH⟩, hS, hT⟩ := hC2
  have hn16 := hX.1.1
  have hl1 := hX.1.2.1
  have hl2 := hX.1.2.2.1
  have hh4 := hX.2.1.1
  have ht80 := hT.2.1
  refine lv_aload_n hx hy dX5_addLine_0 rfl (lv_at hl 0 rfl) ?_
  refine gX5_bench F hI L_X5_10 dX5_addLine_1 ?_
  refine gX0_size F hI (b := 0) (by decide) L_X5_90 dX5_addLine_4 ?_
  refine tI hB.2.1 ?_
  refine lv_bipush (v := nI 16) hx hy dX5_addLine_7 (by decide) ?_
  refine lv_icmp_lt (tgt := 15) hx hy dX5_addLine_9 (by decide) (fun h1 => ?_) (fun h1 => ?_)
  · have h1 : X.1.1 < 16 := (nI_ltI (a := X.1.1) (b := 16) (by omega) (by omega)).mp h1
    refine lv_aload_n hx hy dX5_addLine_15 rfl (lv_at hl 0 rfl) ?_
    refine gX5_history F hI L_X5_29 dX5_addLine_16 ?_
    refine lv_aload_n hx hy dX5_addLine_19 rfl (lv_at hl 0 rfl) ?_
    refine gX5_bench F hI L_X5_10 dX5_addLine_20 ?_
    refine zV hI (xV F hI hl (kX3_push l E (u) hH.2.1 hH.1 hH.2.2.1 hX.2.1.1 hB.2.1 hX.1.1) M_X5_82 (rX3 F hI) rfl ⟨Nat.le_of_ble_eq_true rfl, Nat.le_of_ble_eq_true rfl⟩ ⟨Nat.zero_le _, Nat.zero_le _⟩ rfl (Nat.le_of_ble_eq_true rfl) dX5_addLine_23) (fun v4 H locs hI hp2 => ?_)
    have hR1 := hp2.rep rfl hX hB hH hS hT
    have hRB1 : RepB 0 v4 X.1 := hR1.1.1
    refine lv_aload_n hx hy dX5_addLine_26 rfl (lv_at hl 0 rfl) ?_
    refine gX5_bench F hI L_X5_10 dX5_addLine_27 ?_
    refine lv_iload_n hx hy dX5_addLine_30 rfl (lv_at hl 1 rfl) ?_
    refine lv_iload_n hx hy dX5_addLine_31 rfl (lv_at hl 2 rfl) ?_
    refine lv_iload_n hx hy dX5_addLine_32 rfl (lv_at hl 3 rfl) ?_
    refine lv_iload hx hy dX5_addLine_33 (lv_at hl 4 rfl) ?_
    refine zV hI (xV F hI hl (kX0_add l E ((v4, u.2)) (b := 0) (by decide) hRB1.2.1 (by omega) (nI k) (nI f) (nI s_) (nI t)) M_X5_190 (rX0 F hI (b := 0) (by decide)) rfl ⟨Nat.le_of_ble_eq_true rfl, Nat.le_of_ble_eq_true rfl⟩ ⟨Nat.zero_le _, Nat.zero_le _⟩ rfl (Nat.le_of_ble_eq_true rfl) dX5_addLine_35) (fun v7 H locs hI hp5 => ?_)
    subst hp5
    obtain ⟨c8, ec8⟩ : ∃ z9 : CF, z9 = addC 0 (X.1.1) (nI k) (nI f) (nI s_) (nI t) v4 := ⟨_, rfl⟩
    have hI : Iv E s H locs (c8, u.2) := by rw [ec8]; exact hI
    refine lv_aload_n hx hy dX5_addLine_38 rfl (lv_at hl 0 rfl) ?_
    refine gX5_bench F hI L_X5_10 dX5_addLine_39 ?_
    refine gX0_size F hI (b := 0) (by decide) L_X5_90 dX5_addLine_42 ?_
    refine tI (show _ = c8 2 0 from rfl) ?_
    refine tI (show c8 2 0 = nI (X.1.1 + 1) by rw [ec8]; exact addC_s _ _ _ _ _ _ _) ?_
    refine lv_iconst (v := nI 1) hx hy dX5_addLine_45 (by decide) ?_
    refine lv_isub hx hy dX5_addLine_46 ?_
    refine tI (pk_sub (a := X.1.1 + 1) (b := 1) (by omega)) ?_
    exact rI hQ F (v := (c8, u.2)) hI dX5_addLine_47 (by unfold addL; rw [if_neg (by omega)]; have h9 := Onl0.rep (c' := c8) hR1.1 (by rw [ec8]; exact addC_onl) (by rw [ec8]; exact hRB1.add); exact ⟨rfl, h9.1, hR1.2.tr h9.2⟩)
  · have h1 : 16 ≤ X.1.1 := Nat.le_of_not_lt (fun q9 => h1 ((nI_ltI (a := X.1.1) (b := 16) (by omega) (by omega)).mpr q9))
    refine zc F K_X5_109 dX5_addLine_12 ?_
    exact rI hQ F (v := (u.1, u.2)) hI dX5_addLine_14 (by unfold addL; rw [if_pos (by omega)]; exact ⟨rfl, hC, SameM.rf _⟩)
set_option maxHeartbeats 400000 in
set_option maxRecDepth 100000 in
theorem kX5_source (l : Launch) (E : EV) (u : SS) {X : XS} (hC : RepC u.1 X) (hX : XOk X) (x y : Int32) : CT l yX5_source cX5_source 3 (some .int) (Rm 7 158) [.ref (eA E 0), .int (x), .int (y)] E u (Q_i E (fun r v => r = (a_source X x y).1 ∧ RepC v.1 (a_source X x y).2 ∧ SameM u.1 v.1) (fun (v : SS) => v)) := by
  refine mstart RX5 (by decide +kernel) rfl (Nat.le_of_ble_eq_true rfl) ?_
  intro p e s m args below meth co ls Q hQ F hI hl
  have hx := F.1
  have hy := F.2.1
  have hl : lv_has ls 3 [(0, .ref (eA E 0)), (1, .int (x)), (2, .int (y))] := hl
  have hC2 := hC
  obtain ⟨hB, ⟨o, hH⟩, hS, hT⟩ := hC2
  have hn16 := hX.1.1
  have hl1 := hX.1.2.1
  have hl2 := hX.1.2.2.1
  have hh4 := hX.2.1.1
  have ht80 := hT.2.1
  refine lv_iload_n hx hy dX5_source_0 rfl (lv_at hl 1 rfl) ?_
  refine lv_iload_n hx hy dX5_source_1 rfl (lv_at hl 2 rfl) ?_
  refine zI hI (xS F hI hl (kX5_isShareAndSeed l E (u) x y) M_X5_54 rfl ⟨Nat.le_of_ble_eq_true rfl, Nat.le_of_ble_eq_true rfl⟩ ⟨Nat.zero_le _, Nat.zero_le _⟩ rfl (Nat.le_of_ble_eq_true rfl) dX5_source_2) (fun r2 v3 H locs hI hp1 => ?_)
  rcases rgO_cases 0 256 x (by decide) (by decide) with hxx | ⟨jx, hmjx, hljx, rfl, hxx⟩
  · have hp1 : r2 = 0 := hp1.trans (if_neg (fun q9 => by rw [hxx] at q9; cases q9.1))
    subst hp1
    refine lv_if_ne (tgt := 11) hx hy dX5_source_5 (by decide) (fun q => absurd q (by decide)) (fun _ => ?_)
    refine zc F K_X5_58 dX5_source_8 ?_
    exact rI hQ F (v := (u.1, u.2)) hI dX5_source_10 (by rw [a_source, withR_n hxx]; exact ⟨rfl, hC, SameM.rf _⟩)
  · rcases rgO_cases 1 255 y (by decide) (by decide) with hxy | ⟨jy, hmjy, hljy, rfl, hxy⟩
    · have hp1 : r2 = 0 := hp1.trans (if_neg (fun q9 => by rw [hxy] at q9; cases q9.2))
      subst hp1
      refine lv_if_ne (tgt := 11) hx hy dX5_source_5 (by decide) (fun q => absurd q (by decide)) (fun _ => ?_)
      refine zc F K_X5_58 dX5_source_8 ?_
      exact rI hQ F (v := (u.1, u.2)) hI dX5_source_10 (by rw [a_source, withR_s hxx, withR_n hxy]; exact ⟨rfl, hC, SameM.rf _⟩)
    · have hp1 : r2 = 1 := hp1.trans (if_pos (by rw [hxx, hxy]; exact ⟨rfl, rfl⟩))
      subst hp1
      refine lv_if_ne (tgt := 11) hx hy dX5_source_5 (by decide) (fun _ => ?_) (fun q => absurd q (by decide))
      refine lv_aload_n hx hy dX5_source_11 rfl (lv_at hl 0 rfl) ?_
      refine lv_iconst (v := nI 0) hx hy dX5_source_12 (by decide) ?_
      refine lv_iload_n hx hy dX5_source_13 rfl (lv_at hl 1 rfl) ?_
      refine lv_iload_n hx hy dX5_source_14 rfl (lv_at hl 2 rfl) ?_
      refine lv_iconst (v := nI 0) hx hy dX5_source_15 (by decide) ?_
      refine zI hI (xV F hI hl (kX5_addLine l E (u) hC hX 0 jx jy 0) M_X5_59 (rX5 F hI) rfl ⟨Nat.le_of_ble_eq_true rfl, Nat.le_of_ble_eq_true rfl⟩ ⟨Nat.zero_le _, Nat.zero_le _⟩ rfl (Nat.le_of_ble_eq_true rfl) dX5_source_16) (fun r5 v6 H locs hI hp4 => ?_)
      exact rI hQ F (v := (v6.1, v6.2)) hI dX5_source_19 (by rw [a_source, withR_s hxx, withR_s hxy]; exact hp4)
set_option maxHeartbeats 400000 in
set_option maxRecDepth 100000 in
theorem kX5_gate (l : Launch) (E : EV) (u : SS) {X : XS} (hC : RepC u.1 X) (hX : XOk X) (k x y : Int32) : CT l yX5_gate cX5_gate 4 (some .int) (Rm 7 158) [.ref (eA E 0), .int (k), .int (x), .int (y)] E u (Q_i E (fun r v => r = (a_gate X k x y).1 ∧ RepC v.1 (a_gate X k x y).2 ∧ SameM u.1 v.1) (fun (v : SS) => v)) := by
  refine mstart RX5 (by decide +kernel) rfl (Nat.le_of_ble_eq_true rfl) ?_
  intro p e s m args below meth co ls Q hQ F hI hl
  have hx := F.1
  have hy := F.2.1
  have hl : lv_has ls 4 [(0, .ref (eA E 0)), (1, .int (k)), (2, .int (x)), (3, .int (y))] := hl
  have hC2 := hC
  obtain ⟨hB, ⟨o, hH⟩, hS, hT⟩ := hC2
  have hn16 := hX.1.1
  have hl1 := hX.1.2.1
  have hl2 := hX.1.2.2.1
  have hh4 := hX.2.1.1
  have ht80 := hT.2.1
  refine lv_aload_n hx hy dX5_gate_0 rfl (lv_at hl 0 rfl) ?_
  refine gX5_bench F hI L_X5_10 dX5_gate_1 ?_
  refine lv_iload_n hx hy dX5_gate_4 rfl (lv_at hl 2 rfl) ?_
  refine zI hI (xV F hI hl (kX0_has l E (u) (b := 0) (n := X.1.1) (by decide) hB.2.1 (by omega) x) M_X5_63 (rX0 F hI (b := 0) (by decide)) rfl ⟨Nat.le_of_ble_eq_true rfl, Nat.le_of_ble_eq_true rfl⟩ ⟨Nat.zero_le _, Nat.zero_le _⟩ rfl (Nat.le_of_ble_eq_true rfl) dX5_gate_5) (fun r2 v3 H locs hI hp1 => ?_)
  rcases ixO_cases X.1.1 x (by omega) with hxx | ⟨jx, hljx, rfl, hxx⟩
  · have hp1 : r2 = 0 := hp1.trans (by rw [hxx]; rfl)
    subst hp1
    refine lv_if_eq (tgt := 22) hx hy dX5_gate_8 (by decide) (fun _ => ?_) (fun q => absurd q (by decide))
    refine zc F K_X5_67 dX5_gate_22 ?_
    exact rI hQ F (v := (u.1, u.2)) hI dX5_gate_24 (by rw [a_gate, withL_n hxx]; exact ⟨rfl, hC, SameM.rf _⟩)
  · have hp1 : r2 = 1 := hp1.trans (by rw [hxx]; rfl)
    subst hp1
    have hokjx := hX.1.2.2.2 jx hljx
    have hk6jx := hokjx.1
    have hB9jx := hokjx.2.2.2.2.2.2.1
    have hC9jx := hokjx.2.2.2.2.2.2.2
    refine lv_if_eq (tgt := 22) hx hy dX5_gate_8 (by decide) (fun q => absurd q (by decide)) (fun _ => ?_)
    refine lv_aload_n hx hy dX5_gate_11 rfl (lv_at hl 0 rfl) ?_
    refine gX5_bench F hI L_X5_10 dX5_gate_12 ?_
    refine lv_iload_n hx hy dX5_gate_15 rfl (lv_at hl 3 rfl) ?_
    refine zI hI (xV F hI hl (kX0_has l E (u) (b := 0) (n := X.1.1) (by decide) hB.2.1 (by omega) y) M_X5_63 (rX0 F hI (b := 0) (by decide)) rfl ⟨Nat.le_of_ble_eq_true rfl, Nat.le_of_ble_eq_true rfl⟩ ⟨Nat.zero_le _, Nat.zero_le _⟩ rfl (Nat.le_of_ble_eq_true rfl) dX5_gate_16) (fun r5 v6 H locs hI hp4 => ?_)
    rcases ixO_cases X.1.1 y (by omega) with hxy | ⟨jy, hljy, rfl, hxy⟩
    · have hp4 : r5 = 0 := hp4.trans (by rw [hxy]; rfl)
      subst hp4
      refine lv_if_ne (tgt := 25) hx hy dX5_gate_19 (by decide) (fun q => absurd q (by decide)) (fun _ => ?_)
      refine zc F K_X5_67 dX5_gate_22 ?_
      exact rI hQ F (v := (u.1, u.2)) hI dX5_gate_24 (by rw [a_gate, withL_s hxx, withL_n hxy]; exact ⟨rfl, hC, SameM.rf _⟩)
    · have hp4 : r5 = 1 := hp4.trans (by rw [hxy]; rfl)
      subst hp4
      have hokjy := hX.1.2.2.2 jy hljy
      have hk6jy := hokjy.1
      have hB9jy := hokjy.2.2.2.2.2.2.1
      have hC9jy := hokjy.2.2.2.2.2.2.2
      refine lv_if_ne (tgt := 25) hx hy dX5_gate_19 (by decide) (fun _ => ?_) (fun q => absurd q (by decide))
      refine lv_iload_n hx hy dX5_gate_25 rfl (lv_at hl 1 rfl) ?_
      refine lv_iconst (v := nI 1) hx hy dX5_gate_26 (by decide) ?_
      refine lv_iconst (v := nI 3) hx hy dX5_gate_27 (by decide) ?_
      refine zI hI (xS F hI hl (kX5_isWithin l E (u) 1 3 k) M_X5_68 rfl ⟨Nat.le_of_ble_eq_true rfl, Nat.le_of_ble_eq_true rfl⟩ ⟨Nat.zero_le _, Nat.zero_le _⟩ rfl (Nat.le_of_ble_eq_true rfl) dX5_gate_28) (fun r8 v9 H locs hI hp7 => ?_)
      rcases rgO_cases 1 3 k (by decide) (by decide) with hxk | ⟨jk, hmjk, hljk, rfl, hxk⟩
      · have hp7 : r8 = 0 := hp7.trans (by rw [hxk]; rfl)
        subst hp7
        refine lv_if_ne (tgt := 37) hx hy dX5_gate_31 (by decide) (fun q => absurd q (by decide)) (fun _ => ?_)
        refine zc F K_X5_58 dX5_gate_34 ?_
        exact rI hQ F (v := (u.1, u.2)) hI dX5_gate_36 (by rw [a_gate, withL_s hxx, withL_s hxy, withR_n hxk]; exact ⟨rfl, hC, SameM.rf _⟩)
      · have hp7 : r8 = 1 := hp7.trans (by rw [hxk]; rfl)
        subst hp7
        refine lv_if_ne (tgt := 37) hx hy dX5_gate_31 (by decide) (fun _ => ?_) (fun q => absurd q (by decide))
        refine lv_aload_n hx hy dX5_gate_37 rfl (lv_at hl 0 rfl) ?_
        refine lv_iload_n hx hy dX5_gate_38 rfl (lv_at hl 1 rfl) ?_
        refine lv_iload_n hx hy dX5_gate_39 rfl (lv_at hl 2 rfl) ?_
        refine lv_iload_n hx hy dX5_gate_40 rfl (lv_at hl 3 rfl) ?_
        refine lv_iconst (v := nI 0) hx hy dX5_gate_41 (by decide) ?_
        refine zI hI (xV F hI hl (kX5_addLine l E (u) hC hX jk jx jy 0) M_X5_59 (rX5 F hI) rfl ⟨Nat.le_of_ble_eq_true rfl, Nat.le_of_ble_eq_true rfl⟩ ⟨Nat.zero_le _, Nat.zero_le _⟩ rfl (Nat.le_of_ble_eq_true rfl) dX5_gate_42) (fun r11 v12 H locs hI hp10 => ?_)
        exact rI hQ F (v := (v12.1, v12.2)) hI dX5_gate_45 (by rw [a_gate, withL_s hxx, withL_s hxy, withR_s hxk]; exact hp10)
set_option maxHeartbeats 400000 in
set_option maxRecDepth 100000 in
theorem kX5_choose (l : Launch) (E : EV) (u : SS) {X : XS} (hC : RepC u.1 X) (hX : XOk X) (x y w : Int32) : CT l yX5_choose cX5_choose 4 (some .int) (Rm 7 158) [.ref (eA E 0), .int (x), .int (y), .int (w)] E u (Q_i E (fun r v => r = (a_choose X x y w).1 ∧ RepC v.1 (a_choose X x y w).2 ∧ SameM u.1 v.1) (fun (v : SS) => v)) := by
  refine mstart RX5 (by decide +kernel) rfl (Nat.le_of_ble_eq_true rfl) ?_
  intro p e s m args below meth co ls Q hQ F hI hl
  have hx := F.1
  have hy := F.2.1
  have hl : lv_has ls 4 [(0, .ref (eA E 0)), (1, .int (x)), (2, .int (y)), (3, .int (w))] := hl
  have hC2 := hC
  obtain ⟨hB, ⟨o, hH⟩, hS, hT⟩ := hC2
  have hn16 := hX.1.1
  have hl1 := hX.1.2.1
  have hl2 := hX.1.2.2.1
  have hh4 := hX.2.1.1
  have ht80 := hT.2.1
  refine lv_aload_n hx hy dX5_choose_0 rfl (lv_at hl 0 rfl) ?_
  refine gX5_bench F hI L_X5_10 dX5_choose_1 ?_
  refine lv_iload_n hx hy dX5_choose_4 rfl (lv_at hl 1 rfl) ?_
  refine zI hI (xV F hI hl (kX0_has l E (u) (b := 0) (n := X.1.1) (by decide) hB.2.1 (by omega) x) M_X5_63 (rX0 F hI (b := 0) (by decide)) rfl ⟨Nat.le_of_ble_eq_true rfl, Nat.le_of_ble_eq_true rfl⟩ ⟨Nat.zero_le _, Nat.zero_le _⟩ rfl (Nat.le_of_ble_eq_true rfl) dX5_choose_5) (fun r2 v3 H locs hI hp1 => ?_)
  rcases ixO_cases X.1.1 x (by omega) with hxx | ⟨jx, hljx, rfl, hxx⟩
  · have hp1 : r2 = 0 := hp1.trans (by rw [hxx]; rfl)
    subst hp1
    refine lv_if_eq (tgt := 33) hx hy dX5_choose_8 (by decide) (fun _ => ?_) (fun q => absurd q (by decide))
    refine zc F K_X5_67 dX5_choose_33 ?_
    exact rI hQ F (v := (u.1, u.2)) hI dX5_choose_35 (by rw [a_choose, withL_n hxx]; exact ⟨rfl, hC, SameM.rf _⟩)
  · have hp1 : r2 = 1 := hp1.trans (by rw [hxx]; rfl)
    subst hp1
    have hokjx := hX.1.2.2.2 jx hljx
    have hk6jx := hokjx.1
    have hB9jx := hokjx.2.2.2.2.2.2.1
    have hC9jx := hokjx.2.2.2.2.2.2.2
    refine lv_if_eq (tgt := 33) hx hy dX5_choose_8 (by decide) (fun q => absurd q (by decide)) (fun _ => ?_)
    refine lv_aload_n hx hy dX5_choose_11 rfl (lv_at hl 0 rfl) ?_
    refine gX5_bench F hI L_X5_10 dX5_choose_12 ?_
    refine lv_iload_n hx hy dX5_choose_15 rfl (lv_at hl 2 rfl) ?_
    refine zI hI (xV F hI hl (kX0_has l E (u) (b := 0) (n := X.1.1) (by decide) hB.2.1 (by omega) y) M_X5_63 (rX0 F hI (b := 0) (by decide)) rfl ⟨Nat.le_of_ble_eq_true rfl, Nat.le_of_ble_eq_true rfl⟩ ⟨Nat.zero_le _, Nat.zero_le _⟩ rfl (Nat.le_of_ble_eq_true rfl) dX5_choose_16) (fun r5 v6 H locs hI hp4 => ?_)
    rcases ixO_cases X.1.1 y (by omega) with hxy | ⟨jy, hljy, rfl, hxy⟩
    · have hp4 : r5 = 0 := hp4.trans (by rw [hxy]; rfl)
      subst hp4
      refine lv_if_eq (tgt := 33) hx hy dX5_choose_19 (by decide) (fun _ => ?_) (fun q => absurd q (by decide))
      refine zc F K_X5_67 dX5_choose_33 ?_
      exact rI hQ F (v := (u.1, u.2)) hI dX5_choose_35 (by rw [a_choose, withL_s hxx, withL_n hxy]; exact ⟨rfl, hC, SameM.rf _⟩)
    · have hp4 : r5 = 1 := hp4.trans (by rw [hxy]; rfl)
      subst hp4
      have hokjy := hX.1.2.2.2 jy hljy
      have hk6jy := hokjy.1
      have hB9jy := hokjy.2.2.2.2.2.2.1
      have hC9jy := hokjy.2.2.2.2.2.2.2
      refine lv_if_eq (tgt := 33) hx hy dX5_choose_19 (by decide) (fun q => absurd q (by decide)) (fun _ => ?_)
      refine lv_aload_n hx hy dX5_choose_22 rfl (lv_at hl 0 rfl) ?_
      refine gX5_bench F hI L_X5_10 dX5_choose_23 ?_
      refine lv_iload_n hx hy dX5_choose_26 rfl (lv_at hl 3 rfl) ?_
      refine zI hI (xV F hI hl (kX0_has l E (u) (b := 0) (n := X.1.1) (by decide) hB.2.1 (by omega) w) M_X5_63 (rX0 F hI (b := 0) (by decide)) rfl ⟨Nat.le_of_ble_eq_true rfl, Nat.le_of_ble_eq_true rfl⟩ ⟨Nat.zero_le _, Nat.zero_le _⟩ rfl (Nat.le_of_ble_eq_true rfl) dX5_choose_27) (fun r8 v9 H locs hI hp7 => ?_)
      rcases ixO_cases X.1.1 w (by omega) with hxw | ⟨jw, hljw, rfl, hxw⟩
      · have hp7 : r8 = 0 := hp7.trans (by rw [hxw]; rfl)
        subst hp7
        refine lv_if_ne (tgt := 36) hx hy dX5_choose_30 (by decide) (fun q => absurd q (by decide)) (fun _ => ?_)
        refine zc F K_X5_67 dX5_choose_33 ?_
        exact rI hQ F (v := (u.1, u.2)) hI dX5_choose_35 (by rw [a_choose, withL_s hxx, withL_s hxy, withL_n hxw]; exact ⟨rfl, hC, SameM.rf _⟩)
      · have hp7 : r8 = 1 := hp7.trans (by rw [hxw]; rfl)
        subst hp7
        have hokjw := hX.1.2.2.2 jw hljw
        have hk6jw := hokjw.1
        have hB9jw := hokjw.2.2.2.2.2.2.1
        have hC9jw := hokjw.2.2.2.2.2.2.2
        refine lv_if_ne (tgt := 36) hx hy dX5_choose_30 (by decide) (fun _ => ?_) (fun q => absurd q (by decide))
        refine lv_aload_n hx hy dX5_choose_36 rfl (lv_at hl 0 rfl) ?_
        refine lv_iconst (v := nI 4) hx hy dX5_choose_37 (by decide) ?_
        refine lv_iload_n hx hy dX5_choose_38 rfl (lv_at hl 1 rfl) ?_
        refine lv_iload_n hx hy dX5_choose_39 rfl (lv_at hl 2 rfl) ?_
        refine lv_iload_n hx hy dX5_choose_40 rfl (lv_at hl 3 rfl) ?_
        refine zI hI (xV F hI hl (kX5_addLine l E (u) hC hX 4 jx jy jw) M_X5_59 (rX5 F hI) rfl ⟨Nat.le_of_ble_eq_true rfl, Nat.le_of_ble_eq_true rfl⟩ ⟨Nat.zero_le _, Nat.zero_le _⟩ rfl (Nat.le_of_ble_eq_true rfl) dX5_choose_41) (fun r11 v12 H locs hI hp10 => ?_)
        exact rI hQ F (v := (v12.1, v12.2)) hI dX5_choose_44 (by rw [a_choose, withL_s hxx, withL_s hxy, withL_s hxw]; exact hp10)
set_option maxHeartbeats 400000 in
set_option maxRecDepth 100000 in
theorem kX5_turn (l : Launch) (E : EV) (u : SS) {X : XS} (hC : RepC u.1 X) (hX : XOk X) (x : Int32) : CT l yX5_turn cX5_turn 2 (some .int) (Rm 7 158) [.ref (eA E 0), .int (x)] E u (Q_i E (fun r v => r = (a_turn X x).1 ∧ RepC v.1 (a_turn X x).2 ∧ SameM u.1 v.1) (fun (v : SS) => v)) := by
  refine mstart RX5 (by decide +kernel) rfl (Nat.le_of_ble_eq_true rfl) ?_
  intro p e s m args below meth co ls Q hQ F hI hl
  have hx := F.1
  have hy := F.2.1
  have hl : lv_has ls 2 [(0, .ref (eA E 0)), (1, .int (x))] := hl
  have hC2 := hC
  obtain ⟨hB, ⟨o, hH⟩, hS, hT⟩ := hC2
  have hn16 := hX.1.1
  have hl1 := hX.1.2.1
  have hl2 := hX.1.2.2.1
  have hh4 := hX.2.1.1
  have ht80 := hT.2.1
  refine lv_aload_n hx hy dX5_turn_0 rfl (lv_at hl 0 rfl) ?_
  refine gX5_bench F hI L_X5_10 dX5_turn_1 ?_
  refine lv_iload_n hx hy dX5_turn_4 rfl (lv_at hl 1 rfl) ?_
  refine zI hI (xV F hI hl (kX0_has l E (u) (b := 0) (n := X.1.1) (by decide) hB.2.1 (by omega) x) M_X5_63 (rX0 F hI (b := 0) (by decide)) rfl ⟨Nat.le_of_ble_eq_true rfl, Nat.le_of_ble_eq_true rfl⟩ ⟨Nat.zero_le _, Nat.zero_le _⟩ rfl (Nat.le_of_ble_eq_true rfl) dX5_turn_5) (fun r2 v3 H locs hI hp1 => ?_)
  rcases ixO_cases X.1.1 x (by omega) with hxx | ⟨jx, hljx, rfl, hxx⟩
  · have hp1 : r2 = 0 := hp1.trans (by rw [hxx]; rfl)
    subst hp1
    refine lv_if_ne (tgt := 14) hx hy dX5_turn_8 (by decide) (fun q => absurd q (by decide)) (fun _ => ?_)
    refine zc F K_X5_67 dX5_turn_11 ?_
    exact rI hQ F (v := (u.1, u.2)) hI dX5_turn_13 (by rw [a_turn, withL_n hxx]; exact ⟨rfl, hC, SameM.rf _⟩)
  · have hp1 : r2 = 1 := hp1.trans (by rw [hxx]; rfl)
    subst hp1
    have hokjx := hX.1.2.2.2 jx hljx
    have hk6jx := hokjx.1
    have hB9jx := hokjx.2.2.2.2.2.2.1
    have hC9jx := hokjx.2.2.2.2.2.2.2
    refine lv_if_ne (tgt := 14) hx hy dX5_turn_8 (by decide) (fun _ => ?_) (fun q => absurd q (by decide))
    refine lv_aload_n hx hy dX5_turn_14 rfl (lv_at hl 0 rfl) ?_
    refine lv_iconst (v := nI 5) hx hy dX5_turn_15 (by decide) ?_
    refine lv_iload_n hx hy dX5_turn_16 rfl (lv_at hl 1 rfl) ?_
    refine lv_iconst (v := nI 0) hx hy dX5_turn_17 (by decide) ?_
    refine lv_iconst (v := nI 0) hx hy dX5_turn_18 (by decide) ?_
    refine zI hI (xV F hI hl (kX5_addLine l E (u) hC hX 5 jx 0 0) M_X5_59 (rX5 F hI) rfl ⟨Nat.le_of_ble_eq_true rfl, Nat.le_of_ble_eq_true rfl⟩ ⟨Nat.zero_le _, Nat.zero_le _⟩ rfl (Nat.le_of_ble_eq_true rfl) dX5_turn_19) (fun r5 v6 H locs hI hp4 => ?_)
    exact rI hQ F (v := (v6.1, v6.2)) hI dX5_turn_22 (by rw [a_turn, withL_s hxx]; exact hp4)
set_option maxHeartbeats 400000 in
set_option maxRecDepth 100000 in
theorem kX5_delay (l : Launch) (E : EV) (u : SS) {X : XS} (hC : RepC u.1 X) (hX : XOk X) (x y : Int32) : CT l yX5_delay cX5_delay 3 (some .int) (Rm 7 158) [.ref (eA E 0), .int (x), .int (y)] E u (Q_i E (fun r v => r = (a_delay X x y).1 ∧ RepC v.1 (a_delay X x y).2 ∧ SameM u.1 v.1) (fun (v : SS) => v)) := by
  refine mstart RX5 (by decide +kernel) rfl (Nat.le_of_ble_eq_true rfl) ?_
  intro p e s m args below meth co ls Q hQ F hI hl
  have hx := F.1
  have hy := F.2.1
  have hl : lv_has ls 3 [(0, .ref (eA E 0)), (1, .int (x)), (2, .int (y))] := hl
  have hC2 := hC
  obtain ⟨hB, ⟨o, hH⟩, hS, hT⟩ := hC2
  have hn16 := hX.1.1
  have hl1 := hX.1.2.1
  have hl2 := hX.1.2.2.1
  have hh4 := hX.2.1.1
  have ht80 := hT.2.1
  refine lv_aload_n hx hy dX5_delay_0 rfl (lv_at hl 0 rfl) ?_
  refine gX5_bench F hI L_X5_10 dX5_delay_1 ?_
  refine lv_iload_n hx hy dX5_delay_4 rfl (lv_at hl 1 rfl) ?_
  refine zI hI (xV F hI hl (kX0_has l E (u) (b := 0) (n := X.1.1) (by decide) hB.2.1 (by omega) x) M_X5_63 (rX0 F hI (b := 0) (by decide)) rfl ⟨Nat.le_of_ble_eq_true rfl, Nat.le_of_ble_eq_true rfl⟩ ⟨Nat.zero_le _, Nat.zero_le _⟩ rfl (Nat.le_of_ble_eq_true rfl) dX5_delay_5) (fun r2 v3 H locs hI hp1 => ?_)
  rcases ixO_cases X.1.1 x (by omega) with hxx | ⟨jx, hljx, rfl, hxx⟩
  · have hp1 : r2 = 0 := hp1.trans (by rw [hxx]; rfl)
    subst hp1
    refine lv_if_ne (tgt := 14) hx hy dX5_delay_8 (by decide) (fun q => absurd q (by decide)) (fun _ => ?_)
    refine zc F K_X5_67 dX5_delay_11 ?_
    exact rI hQ F (v := (u.1, u.2)) hI dX5_delay_13 (by rw [a_delay, withL_n hxx]; exact ⟨rfl, hC, SameM.rf _⟩)
  · have hp1 : r2 = 1 := hp1.trans (by rw [hxx]; rfl)
    subst hp1
    have hokjx := hX.1.2.2.2 jx hljx
    have hk6jx := hokjx.1
    have hB9jx := hokjx.2.2.2.2.2.2.1
    have hC9jx := hokjx.2.2.2.2.2.2.2
    refine lv_if_ne (tgt := 14) hx hy dX5_delay_8 (by decide) (fun _ => ?_) (fun q => absurd q (by decide))
    refine lv_iload_n hx hy dX5_delay_14 rfl (lv_at hl 2 rfl) ?_
    refine lv_iconst (v := nI 1) hx hy dX5_delay_15 (by decide) ?_
    refine lv_bipush (v := nI 60) hx hy dX5_delay_16 (by decide) ?_
    refine zI hI (xS F hI hl (kX5_isWithin l E (u) 1 60 y) M_X5_68 rfl ⟨Nat.le_of_ble_eq_true rfl, Nat.le_of_ble_eq_true rfl⟩ ⟨Nat.zero_le _, Nat.zero_le _⟩ rfl (Nat.le_of_ble_eq_true rfl) dX5_delay_18) (fun r5 v6 H locs hI hp4 => ?_)
    rcases rgO_cases 1 60 y (by decide) (by decide) with hxy | ⟨jy, hmjy, hljy, rfl, hxy⟩
    · have hp4 : r5 = 0 := hp4.trans (by rw [hxy]; rfl)
      subst hp4
      refine lv_if_ne (tgt := 27) hx hy dX5_delay_21 (by decide) (fun q => absurd q (by decide)) (fun _ => ?_)
      refine zc F K_X5_58 dX5_delay_24 ?_
      exact rI hQ F (v := (u.1, u.2)) hI dX5_delay_26 (by rw [a_delay, withL_s hxx, withR_n hxy]; exact ⟨rfl, hC, SameM.rf _⟩)
    · have hp4 : r5 = 1 := hp4.trans (by rw [hxy]; rfl)
      subst hp4
      refine lv_if_ne (tgt := 27) hx hy dX5_delay_21 (by decide) (fun _ => ?_) (fun q => absurd q (by decide))
      refine lv_aload_n hx hy dX5_delay_27 rfl (lv_at hl 0 rfl) ?_
      refine lv_bipush (v := nI 6) hx hy dX5_delay_28 (by decide) ?_
      refine lv_iload_n hx hy dX5_delay_30 rfl (lv_at hl 1 rfl) ?_
      refine lv_iload_n hx hy dX5_delay_31 rfl (lv_at hl 2 rfl) ?_
      refine lv_iconst (v := nI 0) hx hy dX5_delay_32 (by decide) ?_
      refine zI hI (xV F hI hl (kX5_addLine l E (u) hC hX 6 jx jy 0) M_X5_59 (rX5 F hI) rfl ⟨Nat.le_of_ble_eq_true rfl, Nat.le_of_ble_eq_true rfl⟩ ⟨Nat.zero_le _, Nat.zero_le _⟩ rfl (Nat.le_of_ble_eq_true rfl) dX5_delay_33) (fun r8 v9 H locs hI hp7 => ?_)
      exact rI hQ F (v := (v9.1, v9.2)) hI dX5_delay_36 (by rw [a_delay, withL_s hxx, withR_s hxy]; exact hp7)
end
section
set_option maxHeartbeats 400000 in
set_option maxRecDepth 100000 in
theorem kX5_reseed (l : Launch) (E : EV) (u : SS) {X : XS} (hC : RepC u.1 X) (hX : XOk X) (x y w : Int32) : CT l yX5_reseed cX5_reseed 5 (some .int) (Rm 6 134) [.ref (eA E 0), .int (x), .int (y), .int (w)] E u (Q_i E (fun r v => r = (a_reseed X x y w).1 ∧ RepC v.1 (a_reseed X x y w).2 ∧ SameM u.1 v.1) (fun (v : SS) => v)) := by
  refine mstart RX5 (by decide +kernel) rfl (Nat.le_of_ble_eq_true rfl) ?_
  intro p e s m args below meth co ls Q hQ F hI hl
  have hx := F.1
  have hy := F.2.1
  have hl : lv_has ls 5 [(0, .ref (eA E 0)), (1, .int (x)), (2, .int (y)), (3, .int (w))] := hl
  have hC2 := hC
  obtain ⟨hB, ⟨o, hH⟩, hS, hT⟩ := hC2
  have hn16 := hX.1.1
  have hl1 := hX.1.2.1
  have hl2 := hX.1.2.2.1
  have hh4 := hX.2.1.1
  have ht80 := hT.2.1
  refine lv_aload_n hx hy dX5_reseed_0 rfl (lv_at hl 0 rfl) ?_
  refine gX5_bench F hI L_X5_10 dX5_reseed_1 ?_
  refine lv_iload_n hx hy dX5_reseed_4 rfl (lv_at hl 1 rfl) ?_
  refine zI hI (xV F hI hl (kX0_has l E (u) (b := 0) (n := X.1.1) (by decide) hB.2.1 (by omega) x) M_X5_63 (rX0 F hI (b := 0) (by decide)) rfl ⟨Nat.le_of_ble_eq_true rfl, Nat.le_of_ble_eq_true rfl⟩ ⟨Nat.zero_le _, Nat.zero_le _⟩ rfl (Nat.le_of_ble_eq_true rfl) dX5_reseed_5) (fun r2 v3 H locs hI hp1 => ?_)
  rcases ixO_cases X.1.1 x (by omega) with hxx | ⟨jx, hljx, rfl, hxx⟩
  · have hp1 : r2 = 0 := hp1.trans (by rw [hxx]; rfl)
    subst hp1
    refine lv_if_ne (tgt := 14) hx hy dX5_reseed_8 (by decide) (fun q => absurd q (by decide)) (fun _ => ?_)
    refine zc F K_X5_67 dX5_reseed_11 ?_
    exact rI hQ F (v := (u.1, u.2)) hI dX5_reseed_13 (by rw [a_reseed, withL_n hxx]; exact ⟨rfl, hC, SameM.rf _⟩)
  · have hp1 : r2 = 1 := hp1.trans (by rw [hxx]; rfl)
    subst hp1
    have hokjx := hX.1.2.2.2 jx hljx
    have hk6jx := hokjx.1
    have hB9jx := hokjx.2.2.2.2.2.2.1
    have hC9jx := hokjx.2.2.2.2.2.2.2
    refine lv_if_ne (tgt := 14) hx hy dX5_reseed_8 (by decide) (fun _ => ?_) (fun q => absurd q (by decide))
    refine lv_iload_n hx hy dX5_reseed_14 rfl (lv_at hl 2 rfl) ?_
    refine lv_iload_n hx hy dX5_reseed_15 rfl (lv_at hl 3 rfl) ?_
    refine zI hI (xS F hI hl (kX5_isShareAndSeed l E (u) y w) M_X5_54 rfl ⟨Nat.le_of_ble_eq_true rfl, Nat.le_of_ble_eq_true rfl⟩ ⟨Nat.zero_le _, Nat.zero_le _⟩ rfl (Nat.le_of_ble_eq_true rfl) dX5_reseed_16) (fun r5 v6 H locs hI hp4 => ?_)
    rcases rgO_cases 0 256 y (by decide) (by decide) with hxy | ⟨jy, hmjy, hljy, rfl, hxy⟩
    · have hp4 : r5 = 0 := hp4.trans (if_neg (fun q9 => by rw [hxy] at q9; cases q9.1))
      subst hp4
      refine lv_if_ne (tgt := 25) hx hy dX5_reseed_19 (by decide) (fun q => absurd q (by decide)) (fun _ => ?_)
      refine zc F K_X5_58 dX5_reseed_22 ?_
      exact rI hQ F (v := (u.1, u.2)) hI dX5_reseed_24 (by rw [a_reseed, withL_s hxx, withR_n hxy]; exact ⟨rfl, hC, SameM.rf _⟩)
    · rcases rgO_cases 1 255 w (by decide) (by decide) with hxw | ⟨jw, hmjw, hljw, rfl, hxw⟩
      · have hp4 : r5 = 0 := hp4.trans (if_neg (fun q9 => by rw [hxw] at q9; cases q9.2))
        subst hp4
        refine lv_if_ne (tgt := 25) hx hy dX5_reseed_19 (by decide) (fun q => absurd q (by decide)) (fun _ => ?_)
        refine zc F K_X5_58 dX5_reseed_22 ?_
        exact rI hQ F (v := (u.1, u.2)) hI dX5_reseed_24 (by rw [a_reseed, withL_s hxx, withR_s hxy, withR_n hxw]; exact ⟨rfl, hC, SameM.rf _⟩)
      · have hp4 : r5 = 1 := hp4.trans (if_pos (by rw [hxy, hxw]; exact ⟨rfl, rfl⟩))
        subst hp4
        refine lv_if_ne (tgt := 25) hx hy dX5_reseed_19 (by decide) (fun _ => ?_) (fun q => absurd q (by decide))
        refine lv_aload_n hx hy dX5_reseed_25 rfl (lv_at hl 0 rfl) ?_
        refine gX5_bench F hI L_X5_10 dX5_reseed_26 ?_
        refine lv_iload_n hx hy dX5_reseed_29 rfl (lv_at hl 1 rfl) ?_
        refine zI hI (xV F hI hl (kX0_kindOf l E (u) (b := 0) (by decide) (nI jx)) M_X5_72 (rX0 F hI (b := 0) (by decide)) rfl ⟨Nat.le_of_ble_eq_true rfl, Nat.le_of_ble_eq_true rfl⟩ ⟨Nat.zero_le _, Nat.zero_le _⟩ rfl (Nat.le_of_ble_eq_true rfl) dX5_reseed_30) (fun r8 v9 H locs hI hp7 => ?_)
        rw [el_lt (by omega) (by decide)] at hp7
        subst hp7
        refine tI (hB.2.2 jx hljx).1 ?_
        refine lv_if_eq (tgt := 39) hx hy dX5_reseed_33 (by decide) (fun h10 => ?_) (fun h10 => ?_)
        · have h10 : (X.1.2.2 jx).1 = 0 := (nI_eq (a := (X.1.2.2 jx).1) (b := 0) (by omega) (by omega)).mp h10
          have h256 := (hokjx.2.1 h10).1
          refine lv_aload_n hx hy dX5_reseed_39 rfl (lv_at hl 0 rfl) ?_
          refine gX5_bench F hI L_X5_10 dX5_reseed_40 ?_
          refine lv_iload_n hx hy dX5_reseed_43 rfl (lv_at hl 1 rfl) ?_
          refine lv_iconst (v := nI 1) hx hy dX5_reseed_44 (by decide) ?_
          refine zI hI (xV F hI hl (kX0_numberOf l E (u) (b := 0) (by decide) (nI jx) (nI 1)) M_X5_77 (rX0 F hI (b := 0) (by decide)) rfl ⟨Nat.le_of_ble_eq_true rfl, Nat.le_of_ble_eq_true rfl⟩ ⟨Nat.zero_le _, Nat.zero_le _⟩ rfl (Nat.le_of_ble_eq_true rfl) dX5_reseed_45) (fun r12 v13 H locs hI hp11 => ?_)
          rw [show nI jx * nI 3 + nI 1 - nI 1 = nI (3 * jx) from ix3 jx 0, el_lt (by omega) (by decide)] at hp11
          subst hp11
          refine tI (hB.2.2 jx hljx).2.1 ?_
          refine lv_istore (lv' := [(4, .int (nI ((X.1.2.2 jx).2.1))), (0, .ref (eA E 0)), (1, .int (nI jx)), (2, .int (nI jy)), (3, .int (nI jw))]) hx hy dX5_reseed_48 hl (by decide) rfl (fun ls hl => ?_)
          refine lv_iload hx hy dX5_reseed_50 (lv_at hl 0 rfl) ?_
          refine lv_iload_n hx hy dX5_reseed_52 rfl (lv_at hl 3 rfl) ?_
          refine lv_icmp_ne (tgt := 72) hx hy dX5_reseed_53 (by decide) (fun h14 => ?_) (fun h14 => ?_)
          · have h14 : (X.1.2.2 jx).2.1 ≠ jy := fun q9 => h14 ((nI_eq (a := (X.1.2.2 jx).2.1) (b := jy) (by omega) (by omega)).mpr q9)
            refine lv_aload_n hx hy dX5_reseed_72 rfl (lv_at hl 1 rfl) ?_
            refine gX5_history F hI L_X5_29 dX5_reseed_73 ?_
            refine lv_aload_n hx hy dX5_reseed_76 rfl (lv_at hl 1 rfl) ?_
            refine gX5_bench F hI L_X5_10 dX5_reseed_77 ?_
            refine zV hI (xV F hI hl (kX3_push l E (u) hH.2.1 hH.1 hH.2.2.1 hX.2.1.1 hB.2.1 hX.1.1) M_X5_82 (rX3 F hI) rfl ⟨Nat.le_of_ble_eq_true rfl, Nat.le_of_ble_eq_true rfl⟩ ⟨Nat.zero_le _, Nat.zero_le _⟩ rfl (Nat.le_of_ble_eq_true rfl) dX5_reseed_80) (fun v17 H locs hI hp15 => ?_)
            have hR1 := hp15.rep rfl hX hB hH hS hT
            have hRB1 : RepB 0 v17 X.1 := hR1.1.1
            refine lv_aload_n hx hy dX5_reseed_83 rfl (lv_at hl 1 rfl) ?_
            refine gX5_bench F hI L_X5_10 dX5_reseed_84 ?_
            refine lv_iload_n hx hy dX5_reseed_87 rfl (lv_at hl 2 rfl) ?_
            refine lv_iload_n hx hy dX5_reseed_88 rfl (lv_at hl 3 rfl) ?_
            refine lv_iload_n hx hy dX5_reseed_89 rfl (lv_at hl 4 rfl) ?_
            refine zV hI (xV F hI hl (kX0_setSource l E ((v17, u.2)) (b := 0) (by decide) jx (by omega) (nI jy) (nI jw)) M_X5_86 (rX0 F hI (b := 0) (by decide)) rfl ⟨Nat.le_of_ble_eq_true rfl, Nat.le_of_ble_eq_true rfl⟩ ⟨Nat.zero_le _, Nat.zero_le _⟩ rfl (Nat.le_of_ble_eq_true rfl) dX5_reseed_90) (fun v20 H locs hI hp18 => ?_)
            subst hp18
            obtain ⟨c21, ec21⟩ : ∃ z9 : CF, z9 = up (up v17 (30 + 0) (3 * jx) (nI jy)) (30 + 0) (3 * jx + 1) (nI jw) := ⟨_, rfl⟩
            have hI : Iv E s H locs (c21, u.2) := by rw [ec21]; exact hI
            have kf22 : c21 2 0 = nI X.1.1 := by rw [ec21, up_at, if_neg (by omega)]; exact hRB1.2.1
            have kf23 : c21 1 0 = nI X.1.2.1 := by rw [ec21, up_at, if_neg (by omega)]; exact hRB1.1
            refine lv_iload hx hy dX5_reseed_93 (lv_at hl 0 rfl) ?_
            exact rI hQ F (v := (c21, u.2)) hI dX5_reseed_95 (by rw [a_reseed, withL_s hxx, withR_s hxy, withR_s hxw, if_neg (fun q9 => q9 h10), if_neg (fun q9 => absurd q9.1 h14)]; have h9 := Onl0.rep (c' := c21) hR1.1 (by rw [ec21]; exact ((Onl0.rf _).up (by omega)).up (by omega)) (by rw [ec21]; exact hRB1.src (by decide) hljx h10); exact ⟨rfl, h9.1, hR1.2.tr h9.2⟩)
          · have h14 : (X.1.2.2 jx).2.1 = jy := (nI_eq (a := (X.1.2.2 jx).2.1) (b := jy) (by omega) (by omega)).mp h14
            refine lv_aload_n hx hy dX5_reseed_56 rfl (lv_at hl 1 rfl) ?_
            refine gX5_bench F hI L_X5_10 dX5_reseed_57 ?_
            refine lv_iload_n hx hy dX5_reseed_60 rfl (lv_at hl 2 rfl) ?_
            refine lv_iconst (v := nI 2) hx hy dX5_reseed_61 (by decide) ?_
            refine zI hI (xV F hI hl (kX0_numberOf l E (u) (b := 0) (by decide) (nI jx) (nI 2)) M_X5_77 (rX0 F hI (b := 0) (by decide)) rfl ⟨Nat.le_of_ble_eq_true rfl, Nat.le_of_ble_eq_true rfl⟩ ⟨Nat.zero_le _, Nat.zero_le _⟩ rfl (Nat.le_of_ble_eq_true rfl) dX5_reseed_62) (fun r25 v26 H locs hI hp24 => ?_)
            rw [show nI jx * nI 3 + nI 2 - nI 1 = nI (3 * jx + 1) from ix3 jx 1, el_lt (by omega) (by decide)] at hp24
            subst hp24
            refine tI (hB.2.2 jx hljx).2.2.1 ?_
            refine lv_iload_n hx hy dX5_reseed_65 rfl (lv_at hl 4 rfl) ?_
            refine lv_icmp_ne (tgt := 72) hx hy dX5_reseed_66 (by decide) (fun h27 => ?_) (fun h27 => ?_)
            · have h27 : (X.1.2.2 jx).2.2.1 ≠ jw := fun q9 => h27 ((nI_eq (a := (X.1.2.2 jx).2.2.1) (b := jw) (by omega) (by omega)).mpr q9)
              refine lv_aload_n hx hy dX5_reseed_72 rfl (lv_at hl 1 rfl) ?_
              refine gX5_history F hI L_X5_29 dX5_reseed_73 ?_
              refine lv_aload_n hx hy dX5_reseed_76 rfl (lv_at hl 1 rfl) ?_
              refine gX5_bench F hI L_X5_10 dX5_reseed_77 ?_
              refine zV hI (xV F hI hl (kX3_push l E (u) hH.2.1 hH.1 hH.2.2.1 hX.2.1.1 hB.2.1 hX.1.1) M_X5_82 (rX3 F hI) rfl ⟨Nat.le_of_ble_eq_true rfl, Nat.le_of_ble_eq_true rfl⟩ ⟨Nat.zero_le _, Nat.zero_le _⟩ rfl (Nat.le_of_ble_eq_true rfl) dX5_reseed_80) (fun v30 H locs hI hp28 => ?_)
              have hR1 := hp28.rep rfl hX hB hH hS hT
              have hRB1 : RepB 0 v30 X.1 := hR1.1.1
              refine lv_aload_n hx hy dX5_reseed_83 rfl (lv_at hl 1 rfl) ?_
              refine gX5_bench F hI L_X5_10 dX5_reseed_84 ?_
              refine lv_iload_n hx hy dX5_reseed_87 rfl (lv_at hl 2 rfl) ?_
              refine lv_iload_n hx hy dX5_reseed_88 rfl (lv_at hl 3 rfl) ?_
              refine lv_iload_n hx hy dX5_reseed_89 rfl (lv_at hl 4 rfl) ?_
              refine zV hI (xV F hI hl (kX0_setSource l E ((v30, u.2)) (b := 0) (by decide) jx (by omega) (nI jy) (nI jw)) M_X5_86 (rX0 F hI (b := 0) (by decide)) rfl ⟨Nat.le_of_ble_eq_true rfl, Nat.le_of_ble_eq_true rfl⟩ ⟨Nat.zero_le _, Nat.zero_le _⟩ rfl (Nat.le_of_ble_eq_true rfl) dX5_reseed_90) (fun v33 H locs hI hp31 => ?_)
              subst hp31
              obtain ⟨c34, ec34⟩ : ∃ z9 : CF, z9 = up (up v30 (30 + 0) (3 * jx) (nI jy)) (30 + 0) (3 * jx + 1) (nI jw) := ⟨_, rfl⟩
              have hI : Iv E s H locs (c34, u.2) := by rw [ec34]; exact hI
              have kf35 : c34 2 0 = nI X.1.1 := by rw [ec34, up_at, if_neg (by omega)]; exact hRB1.2.1
              have kf36 : c34 1 0 = nI X.1.2.1 := by rw [ec34, up_at, if_neg (by omega)]; exact hRB1.1
              refine lv_iload hx hy dX5_reseed_93 (lv_at hl 0 rfl) ?_
              exact rI hQ F (v := (c34, u.2)) hI dX5_reseed_95 (by rw [a_reseed, withL_s hxx, withR_s hxy, withR_s hxw, if_neg (fun q9 => q9 h10), if_neg (fun q9 => absurd q9.2 h27)]; have h9 := Onl0.rep (c' := c34) hR1.1 (by rw [ec34]; exact ((Onl0.rf _).up (by omega)).up (by omega)) (by rw [ec34]; exact hRB1.src (by decide) hljx h10); exact ⟨rfl, h9.1, hR1.2.tr h9.2⟩)
            · have h27 : (X.1.2.2 jx).2.2.1 = jw := (nI_eq (a := (X.1.2.2 jx).2.2.1) (b := jw) (by omega) (by omega)).mp h27
              refine zc F K_X5_81 dX5_reseed_69 ?_
              exact rI hQ F (v := (u.1, u.2)) hI dX5_reseed_71 (by rw [a_reseed, withL_s hxx, withR_s hxy, withR_s hxw, if_neg (fun q9 => q9 h10), if_pos ⟨h14, h27⟩]; exact ⟨rfl, hC, SameM.rf _⟩)
        · have h10 : (X.1.2.2 jx).1 ≠ 0 := fun q9 => h10 ((nI_eq (a := (X.1.2.2 jx).1) (b := 0) (by omega) (by omega)).mpr q9)
          refine zc F K_X5_76 dX5_reseed_36 ?_
          exact rI hQ F (v := (u.1, u.2)) hI dX5_reseed_38 (by rw [a_reseed, withL_s hxx, withR_s hxy, withR_s hxw, if_pos h10]; exact ⟨rfl, hC, SameM.rf _⟩)
set_option maxHeartbeats 400000 in
set_option maxRecDepth 100000 in
theorem kX5_removeLast (l : Launch) (E : EV) (u : SS) {X : XS} (hC : RepC u.1 X) (hX : XOk X) : CT l yX5_removeLast cX5_removeLast 1 (some .int) (Rm 6 134) [.ref (eA E 0)] E u (Q_i E (fun r v => r = (a_removeLast X).1 ∧ RepC v.1 (a_removeLast X).2 ∧ SameM u.1 v.1) (fun (v : SS) => v)) := by
  refine mstart RX5 (by decide +kernel) rfl (Nat.le_of_ble_eq_true rfl) ?_
  intro p e s m args below meth co ls Q hQ F hI hl
  have hx := F.1
  have hy := F.2.1
  have hl : lv_has ls 1 [(0, .ref (eA E 0))] := hl
  have hC2 := hC
  obtain ⟨hB, ⟨o, hH⟩, hS, hT⟩ := hC2
  have hn16 := hX.1.1
  have hl1 := hX.1.2.1
  have hl2 := hX.1.2.2.1
  have hh4 := hX.2.1.1
  have ht80 := hT.2.1
  refine lv_aload_n hx hy dX5_removeLast_0 rfl (lv_at hl 0 rfl) ?_
  refine gX5_bench F hI L_X5_10 dX5_removeLast_1 ?_
  refine gX0_size F hI (b := 0) (by decide) L_X5_90 dX5_removeLast_4 ?_
  refine tI hB.2.1 ?_
  refine lv_if_ne (tgt := 13) hx hy dX5_removeLast_7 (by decide) (fun h1 => ?_) (fun h1 => ?_)
  · have h1 : X.1.1 ≠ 0 := fun q9 => h1 ((nI_eq (a := X.1.1) (b := 0) (by omega) (by omega)).mpr q9)
    refine lv_aload_n hx hy dX5_removeLast_13 rfl (lv_at hl 0 rfl) ?_
    refine gX5_history F hI L_X5_29 dX5_removeLast_14 ?_
    refine lv_aload_n hx hy dX5_removeLast_17 rfl (lv_at hl 0 rfl) ?_
    refine gX5_bench F hI L_X5_10 dX5_removeLast_18 ?_
    refine zV hI (xV F hI hl (kX3_push l E (u) hH.2.1 hH.1 hH.2.2.1 hX.2.1.1 hB.2.1 hX.1.1) M_X5_82 (rX3 F hI) rfl ⟨Nat.le_of_ble_eq_true rfl, Nat.le_of_ble_eq_true rfl⟩ ⟨Nat.zero_le _, Nat.zero_le _⟩ rfl (Nat.le_of_ble_eq_true rfl) dX5_removeLast_21) (fun v4 H locs hI hp2 => ?_)
    have hR1 := hp2.rep rfl hX hB hH hS hT
    have hRB1 : RepB 0 v4 X.1 := hR1.1.1
    refine lv_aload_n hx hy dX5_removeLast_24 rfl (lv_at hl 0 rfl) ?_
    refine gX5_bench F hI L_X5_10 dX5_removeLast_25 ?_
    refine zV hI (xV F hI hl (kX0_dropLast l E ((v4, u.2)) (b := 0) (n := (X.1.1 - 1)) (by decide) (hRB1.2.1.trans (congrArg nI (by omega))) (by omega)) M_X5_94 (rX0 F hI (b := 0) (by decide)) rfl ⟨Nat.le_of_ble_eq_true rfl, Nat.le_of_ble_eq_true rfl⟩ ⟨Nat.zero_le _, Nat.zero_le _⟩ rfl (Nat.le_of_ble_eq_true rfl) dX5_removeLast_28) (fun v7 H locs hI hp5 => ?_)
    subst hp5
    obtain ⟨c8, ec8⟩ : ∃ z9 : CF, z9 = up v4 2 0 (nI (X.1.1 - 1)) := ⟨_, rfl⟩
    have hI : Iv E s H locs (c8, u.2) := by rw [ec8]; exact hI
    have kf9 : c8 1 0 = nI X.1.2.1 := by rw [ec8, up_at, if_neg (by omega)]; exact hRB1.1
    refine lv_aload_n hx hy dX5_removeLast_31 rfl (lv_at hl 0 rfl) ?_
    refine gX5_bench F hI L_X5_10 dX5_removeLast_32 ?_
    refine gX0_size F hI (b := 0) (by decide) L_X5_90 dX5_removeLast_35 ?_
    refine tI (show _ = c8 2 0 from rfl) ?_
    refine tI (show c8 2 0 = nI (X.1.1 - 1) by rw [ec8]; exact up_s _ _ _ _) ?_
    exact rI hQ F (v := (c8, u.2)) hI dX5_removeLast_38 (by rw [a_removeLast, if_neg h1]; have h9 := Onl0.rep (c' := c8) hR1.1 (by rw [ec8]; exact (Onl0.rf _).up (by decide)) (by rw [ec8]; exact hRB1.drop (by omega)); exact ⟨rfl, h9.1, hR1.2.tr h9.2⟩)
  · have h1 : X.1.1 = 0 := (nI_eq (a := X.1.1) (b := 0) (by omega) (by omega)).mp h1
    refine zc F K_X5_81 dX5_removeLast_10 ?_
    exact rI hQ F (v := (u.1, u.2)) hI dX5_removeLast_12 (by rw [a_removeLast, if_pos h1]; exact ⟨rfl, hC, SameM.rf _⟩)
set_option maxHeartbeats 400000 in
set_option maxRecDepth 100000 in
theorem kX5_setLength (l : Launch) (E : EV) (u : SS) {X : XS} (hC : RepC u.1 X) (hX : XOk X) (x : Int32) : CT l yX5_setLength cX5_setLength 3 (some .int) (Rm 6 134) [.ref (eA E 0), .int (x)] E u (Q_i E (fun r v => r = (a_setLength X x).1 ∧ RepC v.1 (a_setLength X x).2 ∧ SameM u.1 v.1) (fun (v : SS) => v)) := by
  refine mstart RX5 (by decide +kernel) rfl (Nat.le_of_ble_eq_true rfl) ?_
  intro p e s m args below meth co ls Q hQ F hI hl
  have hx := F.1
  have hy := F.2.1
  have hl : lv_has ls 3 [(0, .ref (eA E 0)), (1, .int (x))] := hl
  have hC2 := hC
  obtain ⟨hB, ⟨o, hH⟩, hS, hT⟩ := hC2
  have hn16 := hX.1.1
  have hl1 := hX.1.2.1
  have hl2 := hX.1.2.2.1
  have hh4 := hX.2.1.1
  have ht80 := hT.2.1
  refine lv_iload_n hx hy dX5_setLength_0 rfl (lv_at hl 1 rfl) ?_
  refine lv_iconst (v := nI 1) hx hy dX5_setLength_1 (by decide) ?_
  refine lv_sipush (v := nI 1000) hx hy dX5_setLength_2 (by decide) ?_
  refine zI hI (xS F hI hl (kX5_isWithin l E (u) 1 1000 x) M_X5_68 rfl ⟨Nat.le_of_ble_eq_true rfl, Nat.le_of_ble_eq_true rfl⟩ ⟨Nat.zero_le _, Nat.zero_le _⟩ rfl (Nat.le_of_ble_eq_true rfl) dX5_setLength_5) (fun r2 v3 H locs hI hp1 => ?_)
  rcases rgO_cases 1 1000 x (by decide) (by decide) with hxx | ⟨jx, hmjx, hljx, rfl, hxx⟩
  · have hp1 : r2 = 0 := hp1.trans (by rw [hxx]; rfl)
    subst hp1
    refine lv_if_ne (tgt := 14) hx hy dX5_setLength_8 (by decide) (fun q => absurd q (by decide)) (fun _ => ?_)
    refine zc F K_X5_58 dX5_setLength_11 ?_
    exact rI hQ F (v := (u.1, u.2)) hI dX5_setLength_13 (by rw [a_setLength, withR_n hxx]; exact ⟨rfl, hC, SameM.rf _⟩)
  · have hp1 : r2 = 1 := hp1.trans (by rw [hxx]; rfl)
    subst hp1
    refine lv_if_ne (tgt := 14) hx hy dX5_setLength_8 (by decide) (fun _ => ?_) (fun q => absurd q (by decide))
    refine lv_aload_n hx hy dX5_setLength_14 rfl (lv_at hl 0 rfl) ?_
    refine gX5_bench F hI L_X5_10 dX5_setLength_15 ?_
    refine gX0_length F hI (b := 0) (by decide) L_X5_97 dX5_setLength_18 ?_
    refine tI hB.1 ?_
    refine lv_istore_n (lv' := [(2, .int (nI (X.1.2.1))), (0, .ref (eA E 0)), (1, .int (nI jx))]) hx hy dX5_setLength_21 rfl hl (by decide) rfl (fun ls hl => ?_)
    refine lv_iload_n hx hy dX5_setLength_22 rfl (lv_at hl 0 rfl) ?_
    refine lv_iload_n hx hy dX5_setLength_23 rfl (lv_at hl 2 rfl) ?_
    refine lv_icmp_ne (tgt := 30) hx hy dX5_setLength_24 (by decide) (fun h4 => ?_) (fun h4 => ?_)
    · have h4 : X.1.2.1 ≠ jx := fun q9 => h4 ((nI_eq (a := X.1.2.1) (b := jx) (by omega) (by omega)).mpr q9)
      refine lv_aload_n hx hy dX5_setLength_30 rfl (lv_at hl 1 rfl) ?_
      refine gX5_history F hI L_X5_29 dX5_setLength_31 ?_
      refine lv_aload_n hx hy dX5_setLength_34 rfl (lv_at hl 1 rfl) ?_
      refine gX5_bench F hI L_X5_10 dX5_setLength_35 ?_
      refine zV hI (xV F hI hl (kX3_push l E (u) hH.2.1 hH.1 hH.2.2.1 hX.2.1.1 hB.2.1 hX.1.1) M_X5_82 (rX3 F hI) rfl ⟨Nat.le_of_ble_eq_true rfl, Nat.le_of_ble_eq_true rfl⟩ ⟨Nat.zero_le _, Nat.zero_le _⟩ rfl (Nat.le_of_ble_eq_true rfl) dX5_setLength_38) (fun v7 H locs hI hp5 => ?_)
      have hR1 := hp5.rep rfl hX hB hH hS hT
      have hRB1 : RepB 0 v7 X.1 := hR1.1.1
      refine lv_aload_n hx hy dX5_setLength_41 rfl (lv_at hl 1 rfl) ?_
      refine gX5_bench F hI L_X5_10 dX5_setLength_42 ?_
      refine lv_iload_n hx hy dX5_setLength_45 rfl (lv_at hl 2 rfl) ?_
      refine pX0_length F hI (b := 0) (by decide) L_X5_97 dX5_setLength_46 (fun H locs hI => ?_)
      obtain ⟨c8, ec8⟩ : ∃ z9 : CF, z9 = up v7 1 0 (nI jx) := ⟨_, rfl⟩
      have hI : Iv E s H locs (c8, u.2) := by rw [ec8]; exact hI
      have kf9 : c8 2 0 = nI X.1.1 := by rw [ec8, up_at, if_neg (by omega)]; exact hRB1.2.1
      refine lv_iload_n hx hy dX5_setLength_49 rfl (lv_at hl 0 rfl) ?_
      exact rI hQ F (v := (c8, u.2)) hI dX5_setLength_50 (by rw [a_setLength, withR_s hxx, if_neg h4]; have h9 := Onl0.rep (c' := c8) hR1.1 (by rw [ec8]; exact (Onl0.rf _).up (by decide)) (by rw [ec8]; exact hRB1.len); exact ⟨rfl, h9.1, hR1.2.tr h9.2⟩)
    · have h4 : X.1.2.1 = jx := (nI_eq (a := X.1.2.1) (b := jx) (by omega) (by omega)).mp h4
      refine zc F K_X5_81 dX5_setLength_27 ?_
      exact rI hQ F (v := (u.1, u.2)) hI dX5_setLength_29 (by rw [a_setLength, withR_s hxx, if_pos h4]; exact ⟨rfl, hC, SameM.rf _⟩)
end
section
theorem la_j (j : Nat) : nI j = nI (j + 1) - 1 := (pk_sub (a := j + 1) (b := 1) (by omega)).symm
theorem abs_nI {a b : Nat} (ha : a < 2 ^ 30) (hb : b < 2 ^ 30) : (if 0 ≤ nI a - nI b then nI a - nI b else 0 - (nI a - nI b)) = nI (apt a b) := by
  have h := pk_sub_toInt ha hb
  have e0 : (0 : Int32).toInt = 0 := rfl
  unfold apt
  by_cases q : b ≤ a
  · rw [if_pos (by rw [ile, h, e0]; omega), pk_sub q]
    congr 1
    omega
  · rw [if_neg (by rw [ile, h, e0]; omega)]
    have h2 := pk_sub (a := b) (b := a) (by omega)
    rw [show a - b + (b - a) = b - a from by omega, ← h2]
    apply Int32.toBitVec_inj.mp
    simp
theorem row_cnt {g : GF} {f : Nat → Ln} {j w t : Nat} (h : RowG g f j w) (ht : t ≤ 64 * w) : fb_ct (fun k => gb g j k) t = cnt f j t := fb_ct_cong fun k hk => rowG_gb h (by omega)
theorem row_both {g : GF} {f : Nat → Ln} {i j w t : Nat} (h : RowG g f i w) (h2 : RowG g f j w) (ht : t ≤ 64 * w) : fb_ct (fun k => gb g i k && gb g j k) t = both f i j t := fb_ct_cong fun k hk => by rw [rowG_gb h (by omega), rowG_gb h2 (by omega)]
theorem cnt_le (f : Nat → Ln) (j t : Nat) : cnt f j t ≤ t := fb_ct_le _ _
theorem sh_le (f : Nat → Ln) (j t : Nat) : cnt f j t * 65536 / t ≤ 65536 := by
  have h := cnt_le f j t
  exact Nat.div_le_of_le_mul (by omega)
theorem apt_le {a b n : Nat} (ha : a ≤ n) (hb : b ≤ n) : apt a b ≤ n := by unfold apt; omega
theorem errN_le {f : Nat → Ln} {j t : Nat} (h : ex f j ≤ 65536) : errN f j t ≤ 65536 := apt_le (sh_le f j t) h
theorem lNT {a : Nat} (h : a < 2 ^ 31) : (lN a).toInt = (a : Int) := lN_toInt h
theorem lNlt {a b : Nat} (ha : a < 2 ^ 31) (hb : b < 2 ^ 31) : lN a < lN b ↔ a < b := by
  rw [Int64.lt_iff_toInt_lt, lNT ha, lNT hb]
  omega
theorem lNle {a b : Nat} (ha : a < 2 ^ 31) (hb : b < 2 ^ 31) : lN a ≤ lN b ↔ a ≤ b := by
  rw [Int64.le_iff_toInt_le, lNT ha, lNT hb]
  omega
/-- the two sides of a seed's trial -/
theorem seed_seed (f : Nat → Ln) (i s t : Nat) : seedF (seedF f i s) i t = seedF f i t := by
  funext k
  unfold seedF setL
  by_cases e : k = i
  · subst e
    simp
  · simp [e]
theorem seed_self {f : Nat → Ln} {i : Nat} : seedF f i (f i).2.2.1 = f := by
  funext k
  unfold seedF setL
  by_cases e : k = i
  · rw [if_pos e, e]
  · rw [if_neg e]
theorem seed_ok {z : Sg} {i s : Nat} (h : ∀ j, j < z.1 → LnOk j (z.2.2 j)) (hk : (z.2.2 i).1 = 0) (h1 : 1 ≤ s) (h2 : s ≤ 255) : ∀ j, j < z.1 → LnOk j (seedF z.2.2 i s j) := by
  intro j hj
  have h3 := h j hj
  unfold seedF setL
  by_cases e : j = i
  · rw [if_pos e]
    subst e
    obtain ⟨a, b, c, d, e, f, g, k⟩ := h3
    refine ⟨a, fun q => ⟨(b q).1, h1, h2⟩, fun q => ?_, fun q => ?_, fun q => ?_, fun q => ?_, ?_, k⟩
    · have q : 1 ≤ (z.2.2 j).1 := q
      omega
    · have q : 1 ≤ (z.2.2 j).1 := q
      omega
    · have q : (z.2.2 j).1 = 4 := q
      omega
    · have q : (z.2.2 j).1 = 6 := q
      omega
    · show s ≤ 256
      omega
  · rw [if_neg e]
    exact h3
theorem ex_seed {f : Nat → Ln} {i s : Nat} {n : Nat} (h : ∀ j, j < n → LnOk j (f j)) (h2 : ∀ j, j < n → LnOk j (seedF f i s j)) (hk : (f i).1 = 0) : ∀ j, j < n → ex (seedF f i s) j = ex f j := by
  intro j
  induction j using Nat.strongRecOn with
  | _ j ih =>
    intro hj
    have ha := h2 j hj
    rw [ex_eq ha, ex_eq (h j hj)]
    by_cases e : j = i
    · subst e
      have h9 : seedF f j s j = ((f j).1, (f j).2.1, s, (f j).2.2.2) := if_pos rfl
      rw [h9]
      unfold exS
      simp [hk]
    · have h9 : seedF f i s j = f j := if_neg e
      rw [h9]
      exact exS_c j (f j) _ _ (h j hj) (fun k hk => ih k hk (by omega))
theorem seed_row {g : GF} {f : Nat → Ln} {i s t a w : Nat} (h : RowG g (seedF f i s) a w) (h1 : a < i) : RowG g (seedF f i t) a w := by
  intro v hv k hk
  rw [h v hv k hk]
  exact bt_cong (fun j hj => by unfold seedF setL; rw [if_neg (by omega), if_neg (by omega)]) _
theorem seed_row0 {g : GF} {f : Nat → Ln} {i s t a w : Nat} (h : RowG g (seedF f i s) a w) (hai : a ≠ i) (h0 : (f a).1 = 0) (hs : LnOk a (seedF f i s a)) (ht : LnOk a (seedF f i t a)) : RowG g (seedF f i t) a w := by
  intro v hv k hk
  have e1 : seedF f i s a = f a := if_neg hai
  have e2 : seedF f i t a = f a := if_neg hai
  rw [h v hv k hk, bt_0 hs (by rw [e1]; exact h0), bt_0 ht (by rw [e2]; exact h0), e1, e2]
/-- the spare bench with another seed -/
theorem seed_rep {c : CF} {z : Sg} {i s t : Nat} (h : RepB 2 c (z.1, z.2.1, seedF z.2.2 i s)) (hi : i < z.1) (hk : (z.2.2 i).1 = 0) : RepB 2 (up (up c (30 + 2) (3 * i) (nI (z.2.2 i).2.1)) (30 + 2) (3 * i + 1) (nI t)) (z.1, z.2.1, seedF z.2.2 i t) := by
  have h9 := RepB.src (x := (z.2.2 i).2.1) (y := t) (j := i) h (by decide) hi (by show (seedF z.2.2 i s i).1 = 0; unfold seedF setL; rw [if_pos rfl]; exact hk)
  have e : setL (seedF z.2.2 i s) i (0, (z.2.2 i).2.1, t, (seedF z.2.2 i s i).2.2.2) = seedF z.2.2 i t := by
    funext k
    unfold seedF setL
    by_cases q : k = i
    · subst q
      simp [hk]
    · simp [q]
  exact (show RepB 2 _ (z.1, z.2.1, setL (seedF z.2.2 i s) i (0, (z.2.2 i).2.1, t, (seedF z.2.2 i s i).2.2.2)) from h9) |> fun h => by rw [e] at h; exact h
theorem CopyOf.scr2 {c0 c : CF} (h : CopyOf 2 0 c0 c) : Scr c0 c := fun q i h1 h2 h3 h4 h5 h6 h7 h8 => h.2.2 q i (by omega) (by omega) h3 h4
theorem Scr.up {c0 c : CF} (h : Scr c0 c) {r i : Nat} {v : Int32} (hr : r = 22 ∨ r = 32 ∨ (r = 2 ∧ i = 2) ∨ (r = 1 ∧ i = 2) ∨ (r = 0 ∧ i = 4)) : Scr c0 (up c r i v) := by
  intro q j h1 h2 h3 h4 h5 h6 h7 h8
  rw [up_at, if_neg (by omega)]
  exact h q j h1 h2 h3 h4 h5 h6 h7 h8
theorem lastF_le (f : Nat → Ln) (j b : Nat) : ∀ t, lastF f j b t ≤ t
  | 0 => Nat.le_refl _
  | t + 1 => by
    unfold lastF
    split
    · exact Nat.le_refl _
    · have := lastF_le f j b t
      omega
theorem bst_le {f : Nat → Ln} {i j t : Nat} (h : ∀ s, 1 ≤ s → s ≤ 255 → errS f i j t s ≤ 65536) : ∀ k, k ≤ 254 → (bstF f i j t k).1 ≤ k + 1 ∧ (bstF f i j t k).2 ≤ 65536
  | 0, _ => ⟨Nat.le_refl _, h 1 (by decide) (by decide)⟩
  | k + 1, hk => by
    have h1 := bst_le h k (by omega)
    unfold bstF
    split
    · exact ⟨Nat.le_refl _, h (k + 2) (by omega) (by omega)⟩
    · exact ⟨by omega, h1.2⟩
theorem sumE_le {f : Nat → Ln} {t n : Nat} (h : ∀ j, j < n → errN f j t ≤ 65536) : sumE f t n ≤ 65536 * n := by
  induction n with
  | zero => exact Nat.le_refl _
  | succ n ih =>
    have h1 := ih (fun j hj => h j (by omega))
    have h2 := h n (by omega)
    show sumE f t n + errN f n t ≤ _
    omega
theorem cnt_suc (f : Nat → Ln) (j t : Nat) : cnt f j t + bN (bt f j t) = cnt f j (t + 1) := by
  unfold cnt bN
  rw [fb_ct_succ]
end
section
set_option maxHeartbeats 400000 in
set_option maxRecDepth 100000 in
theorem kX5_onesOver (l : Launch) (E : EV) (u : SS) {X : XS} (hC : RepC u.1 X) (hX : XOk X) (j : Nat) (hj : j < X.1.1) (tk : Nat) (htk : tk ≤ 1000) : CT l yX5_onesOver cX5_onesOver 3 (some .int) (Rm 5 121) [.ref (eA E 0), .int (nI j), .int (nI tk)] E u (Q_i E (fun r v => r = nI (cnt X.1.2.2 j tk) ∧ Scr u.1 v.1) (fun (v : SS) => v)) := by
  refine mstart RX5 (by decide +kernel) rfl (Nat.le_of_ble_eq_true rfl) ?_
  intro p e s m args below meth co ls Q hQ F hI hl
  have hx := F.1
  have hy := F.2.1
  have hl : lv_has ls 3 [(0, .ref (eA E 0)), (1, .int (nI j)), (2, .int (nI tk))] := hl
  have hC2 := hC
  obtain ⟨hB, ⟨o, hH⟩, hS, hT⟩ := hC2
  have hn16 := hX.1.1
  have hl1 := hX.1.2.1
  have hl2 := hX.1.2.2.1
  have hh4 := hX.2.1.1
  have ht80 := hT.2.1
  refine lv_aload_n hx hy dX5_onesOver_0 rfl (lv_at hl 0 rfl) ?_
  refine gX5_streams F hI L_X5_50 dX5_onesOver_1 ?_
  refine lv_aload_n hx hy dX5_onesOver_4 rfl (lv_at hl 0 rfl) ?_
  refine gX5_bench F hI L_X5_10 dX5_onesOver_5 ?_
  refine lv_iload_n hx hy dX5_onesOver_8 rfl (lv_at hl 1 rfl) ?_
  refine lv_iload_n hx hy dX5_onesOver_9 rfl (lv_at hl 2 rfl) ?_
  refine zV hI (xV F hI hl (kX4_fill l E (u) (b := 0) (n := X.1.1) (f := X.1.2.2) (by decide) hB.2 hn16 hX.1.2.2.2 (nI j) (j + 1) (tk) ((tk + 64 - 1) / 64) (la_j _) (by omega) (by omega) rfl) M_X5_149 (rX4 F hI) rfl ⟨Nat.le_of_ble_eq_true rfl, Nat.le_of_ble_eq_true rfl⟩ ⟨Nat.zero_le _, Nat.zero_le _⟩ rfl (Nat.le_of_ble_eq_true rfl) dX5_onesOver_10) (fun v3 H locs hI hp1 => ?_)
  refine lv_aload_n hx hy dX5_onesOver_13 rfl (lv_at hl 0 rfl) ?_
  refine gX5_streams F hI L_X5_50 dX5_onesOver_14 ?_
  refine lv_iload_n hx hy dX5_onesOver_17 rfl (lv_at hl 1 rfl) ?_
  refine lv_iload_n hx hy dX5_onesOver_18 rfl (lv_at hl 2 rfl) ?_
  refine zI hI (xV F hI hl (kX4_onesIn l E ((u.1, v3)) j tk (by omega) (by omega)) M_X5_165 (rX4 F hI) rfl ⟨Nat.le_of_ble_eq_true rfl, Nat.le_of_ble_eq_true rfl⟩ ⟨Nat.zero_le _, Nat.zero_le _⟩ rfl (Nat.le_of_ble_eq_true rfl) dX5_onesOver_19) (fun r5 v6 H locs hI hp4 => ?_)
  subst hp4
  refine tI (show _ = nI (fb_ct (fun t => gb v3 j t) tk) from rfl) ?_
  exact rI hQ F (v := (u.1, v3)) hI dX5_onesOver_22 ⟨congrArg nI (row_cnt (hp1 j (by omega)) (by omega)), Scr.rf _⟩
set_option maxHeartbeats 400000 in
set_option maxRecDepth 100000 in
theorem kX5_errorOfCount (l : Launch) (E : EV) (u : SS) (j o t k : Nat) (hj : j < 16) (he : u.1 3 j = nI k) (hk : k ≤ 65536) (ho : o ≤ t) (ht : 1 ≤ t) (ht2 : t ≤ 1000) : CT l yX5_errorOfCount cX5_errorOfCount 4 (some .int) (Rm 2 42) [.ref (eA E 0), .int (nI j), .int (nI o), .int (nI t)] E u (Q_i E (fun r _ => r = nI (apt (o * 65536 / t) k)) (fun (_ : Unit) => u)) := by
  refine mstart RX5 (by decide +kernel) rfl (Nat.le_of_ble_eq_true rfl) ?_
  intro p e s m args below meth co ls Q hQ F hI hl
  have hx := F.1
  have hy := F.2.1
  have hl : lv_has ls 4 [(0, .ref (eA E 0)), (1, .int (nI j)), (2, .int (nI o)), (3, .int (nI t))] := hl
  have hsh : o * 65536 / t ≤ 65536 := Nat.div_le_of_le_mul (by omega)
  refine lv_iload_n hx hy dX5_errorOfCount_0 rfl (lv_at hl 2 rfl) ?_
  refine lv_iload_n hx hy dX5_errorOfCount_1 rfl (lv_at hl 3 rfl) ?_
  refine zI hI (xS F hI hl (kX5_shareOf l E (u) o t (by omega) (by omega) (by omega)) M_X5_131 rfl ⟨Nat.le_of_ble_eq_true rfl, Nat.le_of_ble_eq_true rfl⟩ ⟨Nat.zero_le _, Nat.zero_le _⟩ rfl (Nat.le_of_ble_eq_true rfl) dX5_errorOfCount_2) (fun r2 v3 H locs hI hp1 => ?_)
  subst hp1
  refine lv_aload_n hx hy dX5_errorOfCount_5 rfl (lv_at hl 0 rfl) ?_
  refine gX5_figures F hI L_X5_43 dX5_errorOfCount_6 ?_
  refine lv_iload_n hx hy dX5_errorOfCount_9 rfl (lv_at hl 1 rfl) ?_
  refine zI hI (xV F hI hl (kX2_exactShareOf l E (u) (nI j)) M_X5_137 (rX2 F hI) rfl ⟨Nat.le_of_ble_eq_true rfl, Nat.le_of_ble_eq_true rfl⟩ ⟨Nat.zero_le _, Nat.zero_le _⟩ rfl (Nat.le_of_ble_eq_true rfl) dX5_errorOfCount_10) (fun r5 v6 H locs hI hp4 => ?_)
  rw [el_lt (by omega) (by decide)] at hp4
  subst hp4
  refine tI he ?_
  refine lv_isub hx hy dX5_errorOfCount_13 ?_
  refine zm_abs F hl M_X5_200 ⟨Nat.le_of_ble_eq_true rfl, Nat.le_of_ble_eq_true rfl⟩ ⟨Nat.zero_le _, Nat.zero_le _⟩ dX5_errorOfCount_14 ?_
  exact rI hQ F (v := ()) hI dX5_errorOfCount_17 (abs_nI (a := o * 65536 / t) (b := k) (by omega) (by omega))
set_option maxHeartbeats 400000 in
set_option maxRecDepth 100000 in
theorem kX5_errorOfFilled (l : Launch) (E : EV) (u : SS) {f : Nat → Ln} {w : Nat} (j t : Nat) (hj : j < 16) (hrow : RowG u.2 f j w) (hw : t ≤ 64 * w) (he : u.1 3 j = nI (ex f j)) (hk : ex f j ≤ 65536) (ht : 1 ≤ t) (ht2 : t ≤ 1000) : CT l yX5_errorOfFilled cX5_errorOfFilled 3 (some .int) (Rm 3 72) [.ref (eA E 0), .int (nI j), .int (nI t)] E u (Q_i E (fun r _ => r = nI (errN f j t)) (fun (_ : Unit) => u)) := by
  refine mstart RX5 (by decide +kernel) rfl (Nat.le_of_ble_eq_true rfl) ?_
  intro p e s m args below meth co ls Q hQ F hI hl
  have hx := F.1
  have hy := F.2.1
  have hl : lv_has ls 3 [(0, .ref (eA E 0)), (1, .int (nI j)), (2, .int (nI t))] := hl
  refine lv_aload_n hx hy dX5_errorOfFilled_0 rfl (lv_at hl 0 rfl) ?_
  refine lv_iload_n hx hy dX5_errorOfFilled_1 rfl (lv_at hl 1 rfl) ?_
  refine lv_aload_n hx hy dX5_errorOfFilled_2 rfl (lv_at hl 0 rfl) ?_
  refine gX5_streams F hI L_X5_50 dX5_errorOfFilled_3 ?_
  refine lv_iload_n hx hy dX5_errorOfFilled_6 rfl (lv_at hl 1 rfl) ?_
  refine lv_iload_n hx hy dX5_errorOfFilled_7 rfl (lv_at hl 2 rfl) ?_
  refine zI hI (xV F hI hl (kX4_onesIn l E (u) j t (by omega) (by omega)) M_X5_165 (rX4 F hI) rfl ⟨Nat.le_of_ble_eq_true rfl, Nat.le_of_ble_eq_true rfl⟩ ⟨Nat.zero_le _, Nat.zero_le _⟩ rfl (Nat.le_of_ble_eq_true rfl) dX5_errorOfFilled_8) (fun r2 v3 H locs hI hp1 => ?_)
  subst hp1
  refine tI (congrArg nI (row_cnt hrow hw)) ?_
  have hcl := cnt_le f j t
  refine lv_iload_n hx hy dX5_errorOfFilled_11 rfl (lv_at hl 2 rfl) ?_
  refine zI hI (xV F hI hl (kX5_errorOfCount l E (u) j (cnt f j t) t (ex f j) hj he hk hcl ht ht2) M_X5_197 (rX5 F hI) rfl ⟨Nat.le_of_ble_eq_true rfl, Nat.le_of_ble_eq_true rfl⟩ ⟨Nat.zero_le _, Nat.zero_le _⟩ rfl (Nat.le_of_ble_eq_true rfl) dX5_errorOfFilled_12) (fun r5 v6 H locs hI hp4 => ?_)
  subst hp4
  exact rI hQ F (v := ()) hI dX5_errorOfFilled_15 rfl
set_option maxHeartbeats 400000 in
set_option maxRecDepth 100000 in
theorem kX5_errorOver (l : Launch) (E : EV) (u : SS) {X : XS} (hC : RepC u.1 X) (hX : XOk X) (j : Nat) (hj : j < X.1.1) (tk : Nat) (ht1 : 1 ≤ tk) (htk : tk ≤ 1000) : CT l yX5_errorOver cX5_errorOver 3 (some .int) (Rm 5 121) [.ref (eA E 0), .int (nI j), .int (nI tk)] E u (Q_i E (fun r v => r = nI (errN X.1.2.2 j tk) ∧ Scr u.1 v.1) (fun (v : SS) => v)) := by
  refine mstart RX5 (by decide +kernel) rfl (Nat.le_of_ble_eq_true rfl) ?_
  intro p e s m args below meth co ls Q hQ F hI hl
  have hx := F.1
  have hy := F.2.1
  have hl : lv_has ls 3 [(0, .ref (eA E 0)), (1, .int (nI j)), (2, .int (nI tk))] := hl
  have hC2 := hC
  obtain ⟨hB, ⟨o, hH⟩, hS, hT⟩ := hC2
  have hn16 := hX.1.1
  have hl1 := hX.1.2.1
  have hl2 := hX.1.2.2.1
  have hh4 := hX.2.1.1
  have ht80 := hT.2.1
  refine lv_aload_n hx hy dX5_errorOver_0 rfl (lv_at hl 0 rfl) ?_
  refine gX5_figures F hI L_X5_43 dX5_errorOver_1 ?_
  refine lv_aload_n hx hy dX5_errorOver_4 rfl (lv_at hl 0 rfl) ?_
  refine gX5_bench F hI L_X5_10 dX5_errorOver_5 ?_
  refine zV hI (xV F hI hl (kX2_workOut l E (u) (b := 0) (n := X.1.1) (f := X.1.2.2) (by decide) hB.2 hn16 hX.1.2.2.2) M_X5_134 (rX2 F hI) rfl ⟨Nat.le_of_ble_eq_true rfl, Nat.le_of_ble_eq_true rfl⟩ ⟨Nat.zero_le _, Nat.zero_le _⟩ rfl (Nat.le_of_ble_eq_true rfl) dX5_errorOver_8) (fun v3 H locs hI hp1 => ?_)
  have hsc4 : Scr u.1 v3 := (Scr.rf _).tr hp1.2.scr
  have hCs5 := hsc4.rep hC
  have hBhCs5 : RepB 0 v3 X.1 := hCs5.1
  refine lv_aload_n hx hy dX5_errorOver_11 rfl (lv_at hl 0 rfl) ?_
  refine gX5_streams F hI L_X5_50 dX5_errorOver_12 ?_
  refine lv_aload_n hx hy dX5_errorOver_15 rfl (lv_at hl 0 rfl) ?_
  refine gX5_bench F hI L_X5_10 dX5_errorOver_16 ?_
  refine lv_iload_n hx hy dX5_errorOver_19 rfl (lv_at hl 1 rfl) ?_
  refine lv_iload_n hx hy dX5_errorOver_20 rfl (lv_at hl 2 rfl) ?_
  refine zV hI (xV F hI hl (kX4_fill l E ((v3, u.2)) (b := 0) (n := X.1.1) (f := X.1.2.2) (by decide) hBhCs5.2 hn16 hX.1.2.2.2 (nI j) (j + 1) (tk) ((tk + 64 - 1) / 64) (la_j _) (by omega) (by omega) rfl) M_X5_149 (rX4 F hI) rfl ⟨Nat.le_of_ble_eq_true rfl, Nat.le_of_ble_eq_true rfl⟩ ⟨Nat.zero_le _, Nat.zero_le _⟩ rfl (Nat.le_of_ble_eq_true rfl) dX5_errorOver_21) (fun v8 H locs hI hp6 => ?_)
  refine lv_aload_n hx hy dX5_errorOver_24 rfl (lv_at hl 0 rfl) ?_
  refine lv_iload_n hx hy dX5_errorOver_25 rfl (lv_at hl 1 rfl) ?_
  refine lv_iload_n hx hy dX5_errorOver_26 rfl (lv_at hl 2 rfl) ?_
  refine zI hI (xV F hI hl (kX5_errorOfFilled l E ((v3, v8)) (f := X.1.2.2) (w := (tk + 64 - 1) / 64) j tk (by omega) (hp6 j (by omega)) (by omega) (hp1.1.1 j (by omega)) (ex_le hX.1.2.2.2 _ (by omega)) (by omega) (by omega)) M_X5_194 (rX5 F hI) rfl ⟨Nat.le_of_ble_eq_true rfl, Nat.le_of_ble_eq_true rfl⟩ ⟨Nat.zero_le _, Nat.zero_le _⟩ rfl (Nat.le_of_ble_eq_true rfl) dX5_errorOver_27) (fun r10 v11 H locs hI hp9 => ?_)
  subst hp9
  exact rI hQ F (v := (v3, v8)) hI dX5_errorOver_30 ⟨rfl, hsc4⟩
set_option maxHeartbeats 400000 in
set_option maxRecDepth 100000 in
theorem kX5_fillAll (l : Launch) (E : EV) (u : SS) {X : XS} (hC : RepC u.1 X) (hX : XOk X) : CT l yX5_fillAll cX5_fillAll 1 none (Rm 5 121) [.ref (eA E 0)] E u (Q_v E (fun v => Scr u.1 v.1 ∧ FigI X.1.1 X.1.2.2 v.1 ∧ ∀ i, i < X.1.1 → RowG v.2 X.1.2.2 i ((X.1.2.1 + 64 - 1) / 64)) (fun (v : SS) => v)) := by
  refine mstart RX5 (by decide +kernel) rfl (Nat.le_of_ble_eq_true rfl) ?_
  intro p e s m args below meth co ls Q hQ F hI hl
  have hx := F.1
  have hy := F.2.1
  have hl : lv_has ls 1 [(0, .ref (eA E 0))] := hl
  have hC2 := hC
  obtain ⟨hB, ⟨o, hH⟩, hS, hT⟩ := hC2
  have hn16 := hX.1.1
  have hl1 := hX.1.2.1
  have hl2 := hX.1.2.2.1
  have hh4 := hX.2.1.1
  have ht80 := hT.2.1
  refine lv_aload_n hx hy dX5_fillAll_0 rfl (lv_at hl 0 rfl) ?_
  refine gX5_figures F hI L_X5_43 dX5_fillAll_1 ?_
  refine lv_aload_n hx hy dX5_fillAll_4 rfl (lv_at hl 0 rfl) ?_
  refine gX5_bench F hI L_X5_10 dX5_fillAll_5 ?_
  refine zV hI (xV F hI hl (kX2_workOut l E (u) (b := 0) (n := X.1.1) (f := X.1.2.2) (by decide) hB.2 hn16 hX.1.2.2.2) M_X5_134 (rX2 F hI) rfl ⟨Nat.le_of_ble_eq_true rfl, Nat.le_of_ble_eq_true rfl⟩ ⟨Nat.zero_le _, Nat.zero_le _⟩ rfl (Nat.le_of_ble_eq_true rfl) dX5_fillAll_8) (fun v3 H locs hI hp1 => ?_)
  have hsc4 : Scr u.1 v3 := (Scr.rf _).tr hp1.2.scr
  have hCs5 := hsc4.rep hC
  have hBhCs5 : RepB 0 v3 X.1 := hCs5.1
  refine lv_aload_n hx hy dX5_fillAll_11 rfl (lv_at hl 0 rfl) ?_
  refine gX5_streams F hI L_X5_50 dX5_fillAll_12 ?_
  refine lv_aload_n hx hy dX5_fillAll_15 rfl (lv_at hl 0 rfl) ?_
  refine gX5_bench F hI L_X5_10 dX5_fillAll_16 ?_
  refine lv_aload_n hx hy dX5_fillAll_19 rfl (lv_at hl 0 rfl) ?_
  refine gX5_bench F hI L_X5_10 dX5_fillAll_20 ?_
  refine gX0_size F hI (b := 0) (by decide) L_X5_90 dX5_fillAll_23 ?_
  refine tI (show _ = v3 2 0 from rfl) ?_
  refine tI hBhCs5.2.1 ?_
  refine lv_iconst (v := nI 1) hx hy dX5_fillAll_26 (by decide) ?_
  refine lv_isub hx hy dX5_fillAll_27 ?_
  refine lv_aload_n hx hy dX5_fillAll_28 rfl (lv_at hl 0 rfl) ?_
  refine gX5_bench F hI L_X5_10 dX5_fillAll_29 ?_
  refine gX0_length F hI (b := 0) (by decide) L_X5_97 dX5_fillAll_32 ?_
  refine tI (show _ = v3 1 0 from rfl) ?_
  refine tI hBhCs5.1 ?_
  refine zV hI (xV F hI hl (kX4_fill l E ((v3, u.2)) (b := 0) (n := X.1.1) (f := X.1.2.2) (by decide) hBhCs5.2 hn16 hX.1.2.2.2 (nI X.1.1 - nI 1) (X.1.1) (X.1.2.1) (((X.1.2.1) + 64 - 1) / 64) rfl (by omega) (by omega) rfl) M_X5_149 (rX4 F hI) rfl ⟨Nat.le_of_ble_eq_true rfl, Nat.le_of_ble_eq_true rfl⟩ ⟨Nat.zero_le _, Nat.zero_le _⟩ rfl (Nat.le_of_ble_eq_true rfl) dX5_fillAll_35) (fun v8 H locs hI hp6 => ?_)
  exact rV hQ F (v := (v3, v8)) hI dX5_fillAll_38 ⟨hsc4, hp1.1, hp6⟩
set_option maxHeartbeats 400000 in
set_option maxRecDepth 100000 in
theorem kX5_lastLengthBeyond (l : Launch) (E : EV) (u : SS) {X : XS} (hC : RepC u.1 X) (hX : XOk X) (j : Nat) (hj : j < X.1.1) (b : Nat) (hb : b ≤ 65536) : CT l yX5_lastLengthBeyond cX5_lastLengthBeyond 6 (some .int) (Rm 5 121) [.ref (eA E 0), .int (nI j), .int (nI b)] E u (Q_i E (fun r v => r = nI (lastF X.1.2.2 j b 1000) ∧ Scr u.1 v.1) (fun (v : SS) => v)) := by
  refine mstart RX5 (by decide +kernel) rfl (Nat.le_of_ble_eq_true rfl) ?_
  intro p e s m args below meth co ls Q hQ F hI hl
  have hx := F.1
  have hy := F.2.1
  have hl : lv_has ls 6 [(0, .ref (eA E 0)), (1, .int (nI j)), (2, .int (nI b))] := hl
  have hC2 := hC
  obtain ⟨hB, ⟨o, hH⟩, hS, hT⟩ := hC2
  have hn16 := hX.1.1
  have hl1 := hX.1.2.1
  have hl2 := hX.1.2.2.1
  have hh4 := hX.2.1.1
  have ht80 := hT.2.1
  have hexj := ex_le hX.1.2.2.2 j hj
  refine lv_aload_n hx hy dX5_lastLengthBeyond_0 rfl (lv_at hl 0 rfl) ?_
  refine gX5_figures F hI L_X5_43 dX5_lastLengthBeyond_1 ?_
  refine lv_aload_n hx hy dX5_lastLengthBeyond_4 rfl (lv_at hl 0 rfl) ?_
  refine gX5_bench F hI L_X5_10 dX5_lastLengthBeyond_5 ?_
  refine zV hI (xV F hI hl (kX2_workOut l E (u) (b := 0) (n := X.1.1) (f := X.1.2.2) (by decide) hB.2 hn16 hX.1.2.2.2) M_X5_134 (rX2 F hI) rfl ⟨Nat.le_of_ble_eq_true rfl, Nat.le_of_ble_eq_true rfl⟩ ⟨Nat.zero_le _, Nat.zero_le _⟩ rfl (Nat.le_of_ble_eq_true rfl) dX5_lastLengthBeyond_8) (fun v3 H locs hI hp1 => ?_)
  have hsc4 : Scr u.1 v3 := (Scr.rf _).tr hp1.2.scr
  have hCs5 := hsc4.rep hC
  have hBhCs5 : RepB 0 v3 X.1 := hCs5.1
  refine lv_aload_n hx hy dX5_lastLengthBeyond_11 rfl (lv_at hl 0 rfl) ?_
  refine gX5_streams F hI L_X5_50 dX5_lastLengthBeyond_12 ?_
  refine lv_aload_n hx hy dX5_lastLengthBeyond_15 rfl (lv_at hl 0 rfl) ?_
  refine gX5_bench F hI L_X5_10 dX5_lastLengthBeyond_16 ?_
  refine lv_iload_n hx hy dX5_lastLengthBeyond_19 rfl (lv_at hl 1 rfl) ?_
  refine lv_sipush (v := nI 1000) hx hy dX5_lastLengthBeyond_20 (by decide) ?_
  refine zV hI (xV F hI hl (kX4_fill l E ((v3, u.2)) (b := 0) (n := X.1.1) (f := X.1.2.2) (by decide) hBhCs5.2 hn16 hX.1.2.2.2 (nI j) (j + 1) (1000) ((1000 + 64 - 1) / 64) (la_j _) (by omega) (by omega) rfl) M_X5_149 (rX4 F hI) rfl ⟨Nat.le_of_ble_eq_true rfl, Nat.le_of_ble_eq_true rfl⟩ ⟨Nat.zero_le _, Nat.zero_le _⟩ rfl (Nat.le_of_ble_eq_true rfl) dX5_lastLengthBeyond_23) (fun v8 H locs hI hp6 => ?_)
  refine lv_iconst (v := nI 0) hx hy dX5_lastLengthBeyond_26 (by decide) ?_
  refine lv_istore_n (lv' := [(3, .int (nI 0)), (0, .ref (eA E 0)), (1, .int (nI j)), (2, .int (nI b))]) hx hy dX5_lastLengthBeyond_27 rfl hl (by decide) rfl (fun ls hl => ?_)
  refine lv_iconst (v := nI 0) hx hy dX5_lastLengthBeyond_28 (by decide) ?_
  refine lv_istore (lv' := [(4, .int (nI 0)), (3, .int (nI 0)), (0, .ref (eA E 0)), (1, .int (nI j)), (2, .int (nI b))]) hx hy dX5_lastLengthBeyond_29 hl (by decide) rfl (fun ls hl => ?_)
  refine lv_iconst (v := nI 1) hx hy dX5_lastLengthBeyond_31 (by decide) ?_
  refine lv_istore (lv' := [(5, .int (nI 1)), (4, .int (nI 0)), (3, .int (nI 0)), (0, .ref (eA E 0)), (1, .int (nI j)), (2, .int (nI b))]) hx hy dX5_lastLengthBeyond_32 hl (by decide) rfl (fun ls hl => ?_)
  have lp9 : ∀ (fu : Nat) (t : Nat), (t ≤ 1000) → (1000 - t < fu) →  ∀ (H : Heap) (locs : List Loc) (ls : Array Slot), Iv E s H locs ((v3, v8)) → lv_has ls 6 [(5, .int (nI (t + 1))), (4, .int (nI (cnt X.1.2.2 j t))), (3, .int (nI (lastF X.1.2.2 j b t))), (0, .ref (eA E 0)), (1, .int (nI j)), (2, .int (nI b))] → W p l e (Rm 5 121) s m args below meth co H locs 0 0 Q (F0 m 34 ls []) := by
    intro fu
    induction fu with
    | zero => intro t hi hf; exact absurd hf (Nat.not_lt_zero _)
    | succ fu ih =>
      intro t hi hf H locs ls hI hl
      have ih_34 := ih
      refine lv_iload hx hy dX5_lastLengthBeyond_34 (lv_at hl 0 rfl) ?_
      refine lv_sipush (v := nI 1000) hx hy dX5_lastLengthBeyond_36 (by decide) ?_
      refine lv_icmp_gt (tgt := 81) hx hy dX5_lastLengthBeyond_39 (by decide) (fun h10 => ?_) (fun h10 => ?_)
      · have h10 : 1000 < t + 1 := (nI_ltI (a := 1000) (b := t + 1) (by omega) (by omega)).mp h10
        refine lv_iload_n hx hy dX5_lastLengthBeyond_81 rfl (lv_at hl 2 rfl) ?_
        exact rI hQ F (v := (v3, v8)) hI dX5_lastLengthBeyond_82 ⟨by rw [show t = 1000 from by omega], hsc4⟩
      · have h10 : t + 1 ≤ 1000 := Nat.le_of_not_lt (fun q9 => h10 ((nI_ltI (a := 1000) (b := t + 1) (by omega) (by omega)).mpr q9))
        refine lv_iload hx hy dX5_lastLengthBeyond_42 (lv_at hl 1 rfl) ?_
        refine lv_aload_n hx hy dX5_lastLengthBeyond_44 rfl (lv_at hl 3 rfl) ?_
        refine gX5_streams F hI L_X5_50 dX5_lastLengthBeyond_45 ?_
        refine lv_iload_n hx hy dX5_lastLengthBeyond_48 rfl (lv_at hl 4 rfl) ?_
        refine lv_iload hx hy dX5_lastLengthBeyond_49 (lv_at hl 0 rfl) ?_
        refine lv_iconst (v := nI 1) hx hy dX5_lastLengthBeyond_51 (by decide) ?_
        refine lv_isub hx hy dX5_lastLengthBeyond_52 ?_
        refine tI (pk_sub (a := t + 1) (b := 1) (by omega)) ?_
        refine tI (show _ = nI t from rfl) ?_
        refine zI hI (xV F hI hl (kX4_bitAt l E ((v3, v8)) j t (by omega) (by omega)) M_X5_153 (rX4 F hI) rfl ⟨Nat.le_of_ble_eq_true rfl, Nat.le_of_ble_eq_true rfl⟩ ⟨Nat.zero_le _, Nat.zero_le _⟩ rfl (Nat.le_of_ble_eq_true rfl) dX5_lastLengthBeyond_53) (fun r12 v13 H locs hI hp11 => ?_)
        subst hp11
        refine tI (show _ = nI (bN (gb v8 j t)) from rfl) ?_
        refine lv_iadd hx hy dX5_lastLengthBeyond_56 ?_
        refine tI (nI_add (cnt X.1.2.2 j t) (bN (gb v8 j t))) ?_
        refine tI (show _ = nI (cnt X.1.2.2 j (t + 1)) from by rw [rowG_gb (hp6 j (by omega)) (by omega)]; exact congrArg nI (cnt_suc _ _ _)) ?_
        have hcl := cnt_le X.1.2.2 j (t + 1)
        refine lv_istore (lv' := [(4, .int (nI (cnt X.1.2.2 j (t + 1)))), (5, .int (nI (t + 1))), (3, .int (nI (lastF X.1.2.2 j b t))), (0, .ref (eA E 0)), (1, .int (nI j)), (2, .int (nI b))]) hx hy dX5_lastLengthBeyond_57 hl (by decide) rfl (fun ls hl => ?_)
        refine lv_aload_n hx hy dX5_lastLengthBeyond_59 rfl (lv_at hl 3 rfl) ?_
        refine lv_iload_n hx hy dX5_lastLengthBeyond_60 rfl (lv_at hl 4 rfl) ?_
        refine lv_iload hx hy dX5_lastLengthBeyond_61 (lv_at hl 0 rfl) ?_
        refine lv_iload hx hy dX5_lastLengthBeyond_63 (lv_at hl 1 rfl) ?_
        refine zI hI (xV F hI hl (kX5_errorOfCount l E ((v3, v8)) j (cnt X.1.2.2 j (t + 1)) (t + 1) (ex X.1.2.2 j) (by omega) (hp1.1.1 j (by omega)) hexj hcl (by omega) (by omega)) M_X5_197 (rX5 F hI) rfl ⟨Nat.le_of_ble_eq_true rfl, Nat.le_of_ble_eq_true rfl⟩ ⟨Nat.zero_le _, Nat.zero_le _⟩ rfl (Nat.le_of_ble_eq_true rfl) dX5_lastLengthBeyond_65) (fun r15 v16 H locs hI hp14 => ?_)
        subst hp14
        refine lv_iload_n hx hy dX5_lastLengthBeyond_68 rfl (lv_at hl 5 rfl) ?_
        refine lv_icmp_le (tgt := 75) hx hy dX5_lastLengthBeyond_69 (by decide) (fun h17 => ?_) (fun h17 => ?_)
        · have h17 : errN X.1.2.2 j (t + 1) ≤ b := (nI_leI (a := errN X.1.2.2 j (t + 1)) (b := b) (by have := errN_le (t := t + 1) hexj; omega) (by omega)).mp h17
          have e7 : lastF X.1.2.2 j b (t + 1) = lastF X.1.2.2 j b t := if_neg (by omega)
          have hl : lv_has ls 6 [(4, .int (nI (cnt X.1.2.2 j (t + 1)))), (5, .int (nI (t + 1))), (3, .int (nI (lastF X.1.2.2 j b (t + 1)))), (0, .ref (eA E 0)), (1, .int (nI j)), (2, .int (nI b))] := by rw [e7]; exact hl
          refine lv_iinc (v := nI (t + 1 + 1)) (lv' := [(5, .int (nI (t + 1 + 1))), (4, .int (nI (cnt X.1.2.2 j (t + 1)))), (3, .int (nI (lastF X.1.2.2 j b (t + 1)))), (0, .ref (eA E 0)), (1, .int (nI j)), (2, .int (nI b))]) hx hy dX5_lastLengthBeyond_75 hl (k := 1) rfl (nI_add (t + 1) 1) (by decide) rfl (fun ls hl => ?_)
          refine lv_goto (tgt := 34) hx hy dX5_lastLengthBeyond_78 (by decide) ?_
          exact ih_34 (t + 1) (by omega) (by omega) _ _ _ hI (lv_sub hl [0, 1, 2, 3, 4, 5] rfl)
        · have h17 : b < errN X.1.2.2 j (t + 1) := Nat.lt_of_not_le (fun q9 => h17 ((nI_leI (a := errN X.1.2.2 j (t + 1)) (b := b) (by have := errN_le (t := t + 1) hexj; omega) (by omega)).mpr q9))
          refine lv_iload hx hy dX5_lastLengthBeyond_72 (lv_at hl 1 rfl) ?_
          refine lv_istore_n (lv' := [(3, .int (nI (t + 1))), (4, .int (nI (cnt X.1.2.2 j (t + 1)))), (5, .int (nI (t + 1))), (0, .ref (eA E 0)), (1, .int (nI j)), (2, .int (nI b))]) hx hy dX5_lastLengthBeyond_74 rfl hl (by decide) rfl (fun ls hl => ?_)
          have e7 : lastF X.1.2.2 j b (t + 1) = t + 1 := if_pos h17
          have hl : lv_has ls 6 [(3, .int (nI (lastF X.1.2.2 j b (t + 1)))), (4, .int (nI (cnt X.1.2.2 j (t + 1)))), (5, .int (nI (t + 1))), (0, .ref (eA E 0)), (1, .int (nI j)), (2, .int (nI b))] := by rw [e7]; exact hl
          refine lv_iinc (v := nI (t + 1 + 1)) (lv' := [(5, .int (nI (t + 1 + 1))), (3, .int (nI (lastF X.1.2.2 j b (t + 1)))), (4, .int (nI (cnt X.1.2.2 j (t + 1)))), (0, .ref (eA E 0)), (1, .int (nI j)), (2, .int (nI b))]) hx hy dX5_lastLengthBeyond_75 hl (k := 2) rfl (nI_add (t + 1) 1) (by decide) rfl (fun ls hl => ?_)
          refine lv_goto (tgt := 34) hx hy dX5_lastLengthBeyond_78 (by decide) ?_
          exact ih_34 (t + 1) (by omega) (by omega) _ _ _ hI (lv_sub hl [0, 2, 1, 3, 4, 5] rfl)
  exact lp9 1001 0 (by omega) (by omega) _ _ _ hI (lv_sub hl [0, 1, 2, 3, 4, 5] rfl)
set_option maxHeartbeats 400000 in
set_option maxRecDepth 100000 in
theorem kX5_sumOfErrors (l : Launch) (E : EV) (u : SS) {X : XS} (hC : RepC u.1 X) (hX : XOk X) : CT l yX5_sumOfErrors cX5_sumOfErrors 3 (some .int) (Rm 6 141) [.ref (eA E 0)] E u (Q_i E (fun r v => r = nI (sumE X.1.2.2 X.1.2.1 X.1.1) ∧ Scr u.1 v.1) (fun (v : SS) => v)) := by
  refine mstart RX5 (by decide +kernel) rfl (Nat.le_of_ble_eq_true rfl) ?_
  intro p e s m args below meth co ls Q hQ F hI hl
  have hx := F.1
  have hy := F.2.1
  have hl : lv_has ls 3 [(0, .ref (eA E 0))] := hl
  have hC2 := hC
  obtain ⟨hB, ⟨o, hH⟩, hS, hT⟩ := hC2
  have hn16 := hX.1.1
  have hl1 := hX.1.2.1
  have hl2 := hX.1.2.2.1
  have hh4 := hX.2.1.1
  have ht80 := hT.2.1
  refine lv_aload_n hx hy dX5_sumOfErrors_0 rfl (lv_at hl 0 rfl) ?_
  refine zV hI (xV F hI hl (kX5_fillAll l E (u) hC hX) M_X5_207 (rX5 F hI) rfl ⟨Nat.le_of_ble_eq_true rfl, Nat.le_of_ble_eq_true rfl⟩ ⟨Nat.zero_le _, Nat.zero_le _⟩ rfl (Nat.le_of_ble_eq_true rfl) dX5_sumOfErrors_1) (fun v3 H locs hI hp1 => ?_)
  have hsc4 : Scr u.1 v3.1 := hp1.1
  have hCs5 := hsc4.rep hC
  have hBhCs5 : RepB 0 v3.1 X.1 := hCs5.1
  refine lv_iconst (v := nI 0) hx hy dX5_sumOfErrors_4 (by decide) ?_
  refine lv_istore_n (lv' := [(1, .int (nI 0)), (0, .ref (eA E 0))]) hx hy dX5_sumOfErrors_5 rfl hl (by decide) rfl (fun ls hl => ?_)
  refine lv_iconst (v := nI 0) hx hy dX5_sumOfErrors_6 (by decide) ?_
  refine lv_istore_n (lv' := [(2, .int (nI 0)), (1, .int (nI 0)), (0, .ref (eA E 0))]) hx hy dX5_sumOfErrors_7 rfl hl (by decide) rfl (fun ls hl => ?_)
  have lp6 : ∀ (fu : Nat) (i : Nat), (i ≤ X.1.1) → (X.1.1 - i < fu) →  ∀ (H : Heap) (locs : List Loc) (ls : Array Slot), Iv E s H locs (v3) → lv_has ls 3 [(2, .int (nI i)), (1, .int (nI (sumE X.1.2.2 X.1.2.1 i))), (0, .ref (eA E 0))] → W p l e (Rm 6 141) s m args below meth co H locs 0 0 Q (F0 m 8 ls []) := by
    intro fu
    induction fu with
    | zero => intro i hi hf; exact absurd hf (Nat.not_lt_zero _)
    | succ fu ih =>
      intro i hi hf H locs ls hI hl
      have ih_8 := ih
      refine lv_iload_n hx hy dX5_sumOfErrors_8 rfl (lv_at hl 0 rfl) ?_
      refine lv_aload_n hx hy dX5_sumOfErrors_9 rfl (lv_at hl 2 rfl) ?_
      refine gX5_bench F hI L_X5_10 dX5_sumOfErrors_10 ?_
      refine gX0_size F hI (b := 0) (by decide) L_X5_90 dX5_sumOfErrors_13 ?_
      refine tI (show _ = v3.1 2 0 from rfl) ?_
      refine tI hBhCs5.2.1 ?_
      refine lv_icmp_ge (tgt := 40) hx hy dX5_sumOfErrors_16 (by decide) (fun h7 => ?_) (fun h7 => ?_)
      · have h7 : X.1.1 ≤ i := (nI_leI (a := X.1.1) (b := i) (by omega) (by omega)).mp h7
        refine lv_iload_n hx hy dX5_sumOfErrors_40 rfl (lv_at hl 1 rfl) ?_
        exact rI hQ F (v := (v3.1, v3.2)) hI dX5_sumOfErrors_41 ⟨by rw [show i = X.1.1 from by omega], hsc4⟩
      · have h7 : i < X.1.1 := Nat.lt_of_not_le (fun q9 => h7 ((nI_leI (a := X.1.1) (b := i) (by omega) (by omega)).mpr q9))
        refine lv_iload_n hx hy dX5_sumOfErrors_19 rfl (lv_at hl 1 rfl) ?_
        refine lv_aload_n hx hy dX5_sumOfErrors_20 rfl (lv_at hl 2 rfl) ?_
        refine lv_iload_n hx hy dX5_sumOfErrors_21 rfl (lv_at hl 0 rfl) ?_
        refine lv_aload_n hx hy dX5_sumOfErrors_22 rfl (lv_at hl 2 rfl) ?_
        refine gX5_bench F hI L_X5_10 dX5_sumOfErrors_23 ?_
        refine gX0_length F hI (b := 0) (by decide) L_X5_97 dX5_sumOfErrors_26 ?_
        refine tI (show _ = v3.1 1 0 from rfl) ?_
        refine tI hBhCs5.1 ?_
        refine zI hI (xV F hI hl (kX5_errorOfFilled l E (v3) (f := X.1.2.2) (w := ((X.1.2.1) + 64 - 1) / 64) i (X.1.2.1) (by omega) (hp1.2.2 i (by omega)) (by omega) (hp1.2.1.1 i (by omega)) (ex_le hX.1.2.2.2 _ (by omega)) (by omega) (by omega)) M_X5_194 (rX5 F hI) rfl ⟨Nat.le_of_ble_eq_true rfl, Nat.le_of_ble_eq_true rfl⟩ ⟨Nat.zero_le _, Nat.zero_le _⟩ rfl (Nat.le_of_ble_eq_true rfl) dX5_sumOfErrors_29) (fun r9 v10 H locs hI hp8 => ?_)
        subst hp8
        refine lv_iadd hx hy dX5_sumOfErrors_32 ?_
        refine tI (nI_add (sumE X.1.2.2 X.1.2.1 i) (errN X.1.2.2 i X.1.2.1)) ?_
        refine lv_istore_n (lv' := [(1, .int (nI (sumE X.1.2.2 X.1.2.1 i + errN X.1.2.2 i X.1.2.1))), (2, .int (nI i)), (0, .ref (eA E 0))]) hx hy dX5_sumOfErrors_33 rfl hl (by decide) rfl (fun ls hl => ?_)
        have hl : lv_has ls 3 [(1, .int (nI (sumE X.1.2.2 X.1.2.1 (i + 1)))), (2, .int (nI i)), (0, .ref (eA E 0))] := hl
        refine lv_iinc (v := nI (i + 1)) (lv' := [(2, .int (nI (i + 1))), (1, .int (nI (sumE X.1.2.2 X.1.2.1 (i + 1)))), (0, .ref (eA E 0))]) hx hy dX5_sumOfErrors_34 hl (k := 1) rfl (nI_add (i) 1) (by decide) rfl (fun ls hl => ?_)
        refine lv_goto (tgt := 8) hx hy dX5_sumOfErrors_37 (by decide) ?_
        exact ih_8 (i + 1) (by omega) (by omega) _ _ _ hI (lv_sub hl [0, 1, 2] rfl)
  exact lp6 (X.1.1 + 1) 0 (by omega) (by omega) _ _ _ hI (lv_sub hl [0, 1, 2] rfl)
end
section
theorem rgO_out {a b : Nat} (ha : a < 2 ^ 31) (hb : b < 2 ^ 31) {x : Int32} (h : rgO a b x = none) : x.toInt < (a : Int) ∨ (b : Int) < x.toInt := by
  by_cases q : nI a ≤ x ∧ x ≤ nI b
  · rw [rgO, if_pos q] at h
    cases h
  · rw [ile, ile, nT ha, nT hb] at q
    omega
def wrG (o : Option (Nat × Nat)) : Int32 := match o with | none => -1 | some (_, g) => nI g
theorem wr_none {f : Nat → Ln} {t n : Nat} (h : wrst f t n = none) : wrst f t (n + 1) = some (n, errN f n t) := by
  show (match wrst f t n with | none => _ | some (w, g) => _) = _
  rw [h]
theorem wr_gt {f : Nat → Ln} {t n w g : Nat} (h : wrst f t n = some (w, g)) (q : g < errN f n t) : wrst f t (n + 1) = some (n, errN f n t) := by
  show (match wrst f t n with | none => _ | some (w, g) => _) = _
  rw [h]
  exact if_pos q
theorem wr_le {f : Nat → Ln} {t n w g : Nat} (h : wrst f t n = some (w, g)) (q : ¬ g < errN f n t) : wrst f t (n + 1) = some (w, g) := by
  show (match wrst f t n with | none => _ | some (w, g) => _) = _
  rw [h]
  exact if_neg q
theorem wr_bnd {f : Nat → Ln} {t m : Nat} (he : ∀ j, j < m → errN f j t ≤ 65536) : ∀ n, n ≤ m → ∀ w g, wrst f t n = some (w, g) → w < n ∧ g ≤ 65536
  | 0, _, w, g, h => by cases h
  | n + 1, hn, w, g, h => by
    rcases hw : wrst f t n with _ | ⟨w2, g2⟩
    · rw [wr_none hw] at h
      cases h
      exact ⟨by omega, he n (by omega)⟩
    · by_cases q : g2 < errN f n t
      · rw [wr_gt hw q] at h
        cases h
        exact ⟨by omega, he n (by omega)⟩
      · rw [wr_le hw q] at h
        cases h
        have := wr_bnd he n (by omega) w g hw
        exact ⟨by omega, this.2⟩
theorem bN_le (b : Bool) : bN b ≤ 1 := by cases b <;> decide
theorem bN_eq {a b : Bool} (h : bN a = bN b) : a = b := by cases a <;> cases b <;> first | rfl | (exact absurd h (by decide))
theorem unl_eq {f : Nat → Ln} {j k : Nat} (h : bN (bt f j (60 + k)) = bN (bt f j (60 + k + 255))) : unlF f j (k + 1) = unlF f j k := by
  unfold unlF
  rw [fb_ct_succ, bN_eq h]
  simp
theorem unl_ne {f : Nat → Ln} {j k : Nat} (h : bN (bt f j (60 + k)) ≠ bN (bt f j (60 + k + 255))) : unlF f j (k + 1) = unlF f j k + 1 := by
  unfold unlF
  rw [fb_ct_succ, if_pos]
  rw [bne_iff_ne]
  exact fun e => h (by rw [e])
/-- the spare bench, the figures and the rows while seeds are tried -/
def SeedP (z : Sg) (i j s : Nat) (v : SS) : Prop := RepB 2 v.1 (z.1, z.2.1, seedF z.2.2 i s) ∧ (∀ a, a < z.1 → v.1 3 a = nI (ex z.2.2 a)) ∧ ∀ a, a < j + 1 → (a < i ∨ (a ≠ i ∧ (z.2.2 a).1 = 0)) → RowG v.2 (seedF z.2.2 i s) a ((z.2.1 + 64 - 1) / 64)
theorem SeedP.start {z : Sg} {i j : Nat} {c0 c : CF} {g : GF} (hz : SgOk z) (hB : RepB 0 c0 z) (hc : CopyOf 2 0 c0 c) (hf : FigI z.1 z.2.2 c0) (hr : ∀ a, a < j + 1 → RowG g z.2.2 a ((z.2.1 + 64 - 1) / 64)) : SeedP z i j (z.2.2 i).2.2.1 (c, g) := by
  unfold SeedP
  rw [seed_self]
  exact ⟨hc.rep hB hz.1, fun a ha => (hc.2.2 3 a (by decide) (by decide) (by omega) (by omega)).trans (hf.1 a ha), fun a ha _ => hr a ha⟩
theorem SeedP.share {z : Sg} {i j s : Nat} {v : SS} (h : SeedP z i j s v) (hi : i < z.1) : v.1 (30 + 2) (3 * i) = nI (z.2.2 i).2.1 := by
  have h2 := (h.1.2.2 i hi).2.1
  have e : seedF z.2.2 i s i = ((z.2.2 i).1, (z.2.2 i).2.1, s, (z.2.2 i).2.2.2) := if_pos rfl
  rw [show ((z.1, z.2.1, seedF z.2.2 i s) : Sg).2.2 = seedF z.2.2 i s from rfl, e] at h2
  exact h2
/-- with the rows below the source and of the other sources, a new seed's rows follow -/
theorem SeedP.rows {z : Sg} {i j s t : Nat} {v : SS} (h : SeedP z i j s v) (hz : SgOk z) (hj : j < z.1) (hk : (z.2.2 i).1 = 0) (hs : 1 ≤ s ∧ s ≤ 255) (ht : 1 ≤ t ∧ t ≤ 255) : ∀ a, a < j + 1 → (a < i ∨ (a ≠ i ∧ (z.2.2 a).1 = 0)) → RowG v.2 (seedF z.2.2 i t) a ((z.2.1 + 64 - 1) / 64) := by
  intro a ha h2
  have h3 := h.2.2 a ha h2
  rcases h2 with h2 | ⟨h4, h5⟩
  · exact seed_row h3 h2
  · exact seed_row0 h3 h4 h5 (seed_ok hz.2.2.2 hk hs.1 hs.2 a (by omega)) (seed_ok hz.2.2.2 hk ht.1 ht.2 a (by omega))
theorem seedF_ne {f : Nat → Ln} {i s a : Nat} (h : a ≠ i) : seedF f i s a = f a := if_neg h
theorem errS_le {z : Sg} {i j t s : Nat} (hz : SgOk z) (hj : j < z.1) (hk : (z.2.2 i).1 = 0) (h1 : 1 ≤ s) (h2 : s ≤ 255) : errS z.2.2 i j t s ≤ 65536 := errN_le (ex_le (seed_ok hz.2.2.2 hk h1 h2) j hj)
theorem len_ne {n : Nat} (h1 : 1 ≤ n) (h2 : n ≤ 1000) : ¬ lN (n * n) = 0 := by
  intro q
  have h3 : n * n ≤ 1000 * 1000 := Nat.mul_le_mul h2 h2
  have h4 : 1 * 1 ≤ n * n := Nat.mul_le_mul h1 h1
  have h5 := lNT (a := n * n) (by omega)
  rw [q] at h5
  have h6 : (0 : Int64).toInt = 0 := rfl
  omega
end
section
set_option maxHeartbeats 400000 in
set_option maxRecDepth 100000 in
theorem kX5_lineWithGreatestError (l : Launch) (E : EV) (u : SS) {X : XS} (hC : RepC u.1 X) (hX : XOk X) : CT l yX5_lineWithGreatestError cX5_lineWithGreatestError 5 (some .int) (Rm 6 141) [.ref (eA E 0)] E u (Q_i E (fun r v => r = wrI (wrst X.1.2.2 X.1.2.1 X.1.1) ∧ Scr u.1 v.1) (fun (v : SS) => v)) := by
  refine mstart RX5 (by decide +kernel) rfl (Nat.le_of_ble_eq_true rfl) ?_
  intro p e s m args below meth co ls Q hQ F hI hl
  have hx := F.1
  have hy := F.2.1
  have hl : lv_has ls 5 [(0, .ref (eA E 0))] := hl
  have hC2 := hC
  obtain ⟨hB, ⟨o, hH⟩, hS, hT⟩ := hC2
  have hn16 := hX.1.1
  have hl1 := hX.1.2.1
  have hl2 := hX.1.2.2.1
  have hh4 := hX.2.1.1
  have ht80 := hT.2.1
  have hee : ∀ j, j < X.1.1 → errN X.1.2.2 j X.1.2.1 ≤ 65536 := fun j hj => errN_le (ex_le hX.1.2.2.2 j hj)
  refine lv_aload_n hx hy dX5_lineWithGreatestError_0 rfl (lv_at hl 0 rfl) ?_
  refine zV hI (xV F hI hl (kX5_fillAll l E (u) hC hX) M_X5_207 (rX5 F hI) rfl ⟨Nat.le_of_ble_eq_true rfl, Nat.le_of_ble_eq_true rfl⟩ ⟨Nat.zero_le _, Nat.zero_le _⟩ rfl (Nat.le_of_ble_eq_true rfl) dX5_lineWithGreatestError_1) (fun v3 H locs hI hp1 => ?_)
  have hsc4 : Scr u.1 v3.1 := hp1.1
  have hCs5 := hsc4.rep hC
  have hBhCs5 : RepB 0 v3.1 X.1 := hCs5.1
  refine zc F K_X5_81 dX5_lineWithGreatestError_4 ?_
  refine lv_istore_n (lv' := [(1, .int ((-100000005))), (0, .ref (eA E 0))]) hx hy dX5_lineWithGreatestError_6 rfl hl (by decide) rfl (fun ls hl => ?_)
  refine lv_iconst (v := (-1)) hx hy dX5_lineWithGreatestError_7 (by decide) ?_
  refine lv_istore_n (lv' := [(2, .int ((-1))), (1, .int ((-100000005))), (0, .ref (eA E 0))]) hx hy dX5_lineWithGreatestError_8 rfl hl (by decide) rfl (fun ls hl => ?_)
  refine lv_iconst (v := nI 0) hx hy dX5_lineWithGreatestError_9 (by decide) ?_
  refine lv_istore_n (lv' := [(3, .int (nI 0)), (2, .int ((-1))), (1, .int ((-100000005))), (0, .ref (eA E 0))]) hx hy dX5_lineWithGreatestError_10 rfl hl (by decide) rfl (fun ls hl => ?_)
  have lp6 : ∀ (fu : Nat) (i : Nat), (i ≤ X.1.1) → (X.1.1 - i < fu) →  ∀ (H : Heap) (locs : List Loc) (ls : Array Slot), Iv E s H locs (v3) → lv_has ls 5 [(3, .int (nI i)), (1, .int (wrI (wrst X.1.2.2 X.1.2.1 i))), (2, .int (wrG (wrst X.1.2.2 X.1.2.1 i))), (0, .ref (eA E 0))] → W p l e (Rm 6 141) s m args below meth co H locs 0 0 Q (F0 m 11 ls []) := by
    intro fu
    induction fu with
    | zero => intro i hi hf; exact absurd hf (Nat.not_lt_zero _)
    | succ fu ih =>
      intro i hi hf H locs ls hI hl
      have ih_11 := ih
      refine lv_iload_n hx hy dX5_lineWithGreatestError_11 rfl (lv_at hl 0 rfl) ?_
      refine lv_aload_n hx hy dX5_lineWithGreatestError_12 rfl (lv_at hl 3 rfl) ?_
      refine gX5_bench F hI L_X5_10 dX5_lineWithGreatestError_13 ?_
      refine gX0_size F hI (b := 0) (by decide) L_X5_90 dX5_lineWithGreatestError_16 ?_
      refine tI (show _ = v3.1 2 0 from rfl) ?_
      refine tI hBhCs5.2.1 ?_
      refine lv_icmp_ge (tgt := 53) hx hy dX5_lineWithGreatestError_19 (by decide) (fun h7 => ?_) (fun h7 => ?_)
      · have h7 : X.1.1 ≤ i := (nI_leI (a := X.1.1) (b := i) (by omega) (by omega)).mp h7
        refine lv_iload_n hx hy dX5_lineWithGreatestError_53 rfl (lv_at hl 1 rfl) ?_
        exact rI hQ F (v := (v3.1, v3.2)) hI dX5_lineWithGreatestError_54 ⟨by rw [show i = X.1.1 from by omega], hsc4⟩
      · have h7 : i < X.1.1 := Nat.lt_of_not_le (fun q9 => h7 ((nI_leI (a := X.1.1) (b := i) (by omega) (by omega)).mpr q9))
        refine lv_aload_n hx hy dX5_lineWithGreatestError_22 rfl (lv_at hl 3 rfl) ?_
        refine lv_iload_n hx hy dX5_lineWithGreatestError_23 rfl (lv_at hl 0 rfl) ?_
        refine lv_aload_n hx hy dX5_lineWithGreatestError_24 rfl (lv_at hl 3 rfl) ?_
        refine gX5_bench F hI L_X5_10 dX5_lineWithGreatestError_25 ?_
        refine gX0_length F hI (b := 0) (by decide) L_X5_97 dX5_lineWithGreatestError_28 ?_
        refine tI (show _ = v3.1 1 0 from rfl) ?_
        refine tI hBhCs5.1 ?_
        refine zI hI (xV F hI hl (kX5_errorOfFilled l E (v3) (f := X.1.2.2) (w := ((X.1.2.1) + 64 - 1) / 64) i (X.1.2.1) (by omega) (hp1.2.2 i (by omega)) (by omega) (hp1.2.1.1 i (by omega)) (ex_le hX.1.2.2.2 _ (by omega)) (by omega) (by omega)) M_X5_194 (rX5 F hI) rfl ⟨Nat.le_of_ble_eq_true rfl, Nat.le_of_ble_eq_true rfl⟩ ⟨Nat.zero_le _, Nat.zero_le _⟩ rfl (Nat.le_of_ble_eq_true rfl) dX5_lineWithGreatestError_31) (fun r9 v10 H locs hI hp8 => ?_)
        subst hp8
        refine lv_istore (lv' := [(4, .int (nI (errN X.1.2.2 i X.1.2.1))), (3, .int (nI i)), (1, .int (wrI (wrst X.1.2.2 X.1.2.1 i))), (2, .int (wrG (wrst X.1.2.2 X.1.2.1 i))), (0, .ref (eA E 0))]) hx hy dX5_lineWithGreatestError_34 hl (by decide) rfl (fun ls hl => ?_)
        rcases hw : wrst X.1.2.2 X.1.2.1 i with _ | ⟨ww, gg⟩
        · have hl : lv_has ls 5 [(4, .int (nI (errN X.1.2.2 i X.1.2.1))), (3, .int (nI i)), (1, .int (NON)), (2, .int ((-1))), (0, .ref (eA E 0))] := by rw [hw] at hl; exact hl
          refine lv_iload hx hy dX5_lineWithGreatestError_36 (lv_at hl 0 rfl) ?_
          refine lv_iload_n hx hy dX5_lineWithGreatestError_38 rfl (lv_at hl 3 rfl) ?_
          refine lv_icmp_le (tgt := 47) hx hy dX5_lineWithGreatestError_39 (by decide) (fun q => absurd q (m1_ge (by have := hee i (by omega); omega))) (fun h11 => ?_)
          refine lv_iload hx hy dX5_lineWithGreatestError_42 (lv_at hl 0 rfl) ?_
          refine lv_istore_n (lv' := [(2, .int (nI (errN X.1.2.2 i X.1.2.1))), (4, .int (nI (errN X.1.2.2 i X.1.2.1))), (3, .int (nI i)), (1, .int (NON)), (0, .ref (eA E 0))]) hx hy dX5_lineWithGreatestError_44 rfl hl (by decide) rfl (fun ls hl => ?_)
          refine lv_iload_n hx hy dX5_lineWithGreatestError_45 rfl (lv_at hl 2 rfl) ?_
          refine lv_istore_n (lv' := [(1, .int (nI i)), (2, .int (nI (errN X.1.2.2 i X.1.2.1))), (4, .int (nI (errN X.1.2.2 i X.1.2.1))), (3, .int (nI i)), (0, .ref (eA E 0))]) hx hy dX5_lineWithGreatestError_46 rfl hl (by decide) rfl (fun ls hl => ?_)
          have e7 : wrst X.1.2.2 X.1.2.1 (i + 1) = _ := wr_none hw
          have hl : lv_has ls 5 [(1, .int (wrI (wrst X.1.2.2 X.1.2.1 (i + 1)))), (2, .int (wrG (wrst X.1.2.2 X.1.2.1 (i + 1)))), (4, .int (nI (errN X.1.2.2 i X.1.2.1))), (3, .int (nI i)), (0, .ref (eA E 0))] := by rw [e7]; exact hl
          refine lv_iinc (v := nI (i + 1)) (lv' := [(3, .int (nI (i + 1))), (1, .int (wrI (wrst X.1.2.2 X.1.2.1 (i + 1)))), (2, .int (wrG (wrst X.1.2.2 X.1.2.1 (i + 1)))), (4, .int (nI (errN X.1.2.2 i X.1.2.1))), (0, .ref (eA E 0))]) hx hy dX5_lineWithGreatestError_47 hl (k := 3) rfl (nI_add (i) 1) (by decide) rfl (fun ls hl => ?_)
          refine lv_goto (tgt := 11) hx hy dX5_lineWithGreatestError_50 (by decide) ?_
          exact ih_11 (i + 1) (by omega) (by omega) _ _ _ hI (lv_sub hl [0, 1, 2, 4] rfl)
        · have hwb := wr_bnd hee i (by omega) ww gg hw
          have hl : lv_has ls 5 [(4, .int (nI (errN X.1.2.2 i X.1.2.1))), (3, .int (nI i)), (1, .int (nI ww)), (2, .int (nI gg)), (0, .ref (eA E 0))] := by rw [hw] at hl; exact hl
          refine lv_iload hx hy dX5_lineWithGreatestError_36 (lv_at hl 0 rfl) ?_
          refine lv_iload_n hx hy dX5_lineWithGreatestError_38 rfl (lv_at hl 3 rfl) ?_
          refine lv_icmp_le (tgt := 47) hx hy dX5_lineWithGreatestError_39 (by decide) (fun h12 => ?_) (fun h12 => ?_)
          · have h12 : errN X.1.2.2 i X.1.2.1 ≤ gg := (nI_leI (a := errN X.1.2.2 i X.1.2.1) (b := gg) (by have := hee i (by omega); omega) (by omega)).mp h12
            have e7 : wrst X.1.2.2 X.1.2.1 (i + 1) = _ := wr_le hw (by omega)
            have hl : lv_has ls 5 [(4, .int (nI (errN X.1.2.2 i X.1.2.1))), (3, .int (nI i)), (1, .int (wrI (wrst X.1.2.2 X.1.2.1 (i + 1)))), (2, .int (wrG (wrst X.1.2.2 X.1.2.1 (i + 1)))), (0, .ref (eA E 0))] := by rw [e7]; exact hl
            refine lv_iinc (v := nI (i + 1)) (lv' := [(3, .int (nI (i + 1))), (4, .int (nI (errN X.1.2.2 i X.1.2.1))), (1, .int (wrI (wrst X.1.2.2 X.1.2.1 (i + 1)))), (2, .int (wrG (wrst X.1.2.2 X.1.2.1 (i + 1)))), (0, .ref (eA E 0))]) hx hy dX5_lineWithGreatestError_47 hl (k := 1) rfl (nI_add (i) 1) (by decide) rfl (fun ls hl => ?_)
            refine lv_goto (tgt := 11) hx hy dX5_lineWithGreatestError_50 (by decide) ?_
            exact ih_11 (i + 1) (by omega) (by omega) _ _ _ hI (lv_sub hl [0, 2, 3, 4] rfl)
          · have h12 : gg < errN X.1.2.2 i X.1.2.1 := Nat.lt_of_not_le (fun q9 => h12 ((nI_leI (a := errN X.1.2.2 i X.1.2.1) (b := gg) (by have := hee i (by omega); omega) (by omega)).mpr q9))
            refine lv_iload hx hy dX5_lineWithGreatestError_42 (lv_at hl 0 rfl) ?_
            refine lv_istore_n (lv' := [(2, .int (nI (errN X.1.2.2 i X.1.2.1))), (4, .int (nI (errN X.1.2.2 i X.1.2.1))), (3, .int (nI i)), (1, .int (nI ww)), (0, .ref (eA E 0))]) hx hy dX5_lineWithGreatestError_44 rfl hl (by decide) rfl (fun ls hl => ?_)
            refine lv_iload_n hx hy dX5_lineWithGreatestError_45 rfl (lv_at hl 2 rfl) ?_
            refine lv_istore_n (lv' := [(1, .int (nI i)), (2, .int (nI (errN X.1.2.2 i X.1.2.1))), (4, .int (nI (errN X.1.2.2 i X.1.2.1))), (3, .int (nI i)), (0, .ref (eA E 0))]) hx hy dX5_lineWithGreatestError_46 rfl hl (by decide) rfl (fun ls hl => ?_)
            have e7 : wrst X.1.2.2 X.1.2.1 (i + 1) = _ := wr_gt hw (by omega)
            have hl : lv_has ls 5 [(1, .int (wrI (wrst X.1.2.2 X.1.2.1 (i + 1)))), (2, .int (wrG (wrst X.1.2.2 X.1.2.1 (i + 1)))), (4, .int (nI (errN X.1.2.2 i X.1.2.1))), (3, .int (nI i)), (0, .ref (eA E 0))] := by rw [e7]; exact hl
            refine lv_iinc (v := nI (i + 1)) (lv' := [(3, .int (nI (i + 1))), (1, .int (wrI (wrst X.1.2.2 X.1.2.1 (i + 1)))), (2, .int (wrG (wrst X.1.2.2 X.1.2.1 (i + 1)))), (4, .int (nI (errN X.1.2.2 i X.1.2.1))), (0, .ref (eA E 0))]) hx hy dX5_lineWithGreatestError_47 hl (k := 3) rfl (nI_add (i) 1) (by decide) rfl (fun ls hl => ?_)
            refine lv_goto (tgt := 11) hx hy dX5_lineWithGreatestError_50 (by decide) ?_
            exact ih_11 (i + 1) (by omega) (by omega) _ _ _ hI (lv_sub hl [0, 1, 2, 4] rfl)
  exact lp6 (X.1.1 + 1) 0 (by omega) (by omega) _ _ _ hI (lv_sub hl [0, 2, 1, 3] rfl)
set_option maxHeartbeats 400000 in
set_option maxRecDepth 100000 in
theorem kX5_errorAt (l : Launch) (E : EV) (u : SS) {X : XS} (hC : RepC u.1 X) (hX : XOk X) (x y : Int32) : CT l yX5_errorAt cX5_errorAt 3 (some .int) (Rm 6 143) [.ref (eA E 0), .int (x), .int (y)] E u (Q_i E (fun r v => r = (a_errorAt X x y).1 ∧ RepC v.1 (a_errorAt X x y).2 ∧ SameM u.1 v.1) (fun (v : SS) => v)) := by
  refine mstart RX5 (by decide +kernel) rfl (Nat.le_of_ble_eq_true rfl) ?_
  intro p e s m args below meth co ls Q hQ F hI hl
  have hx := F.1
  have hy := F.2.1
  have hl : lv_has ls 3 [(0, .ref (eA E 0)), (1, .int (x)), (2, .int (y))] := hl
  have hC2 := hC
  obtain ⟨hB, ⟨o, hH⟩, hS, hT⟩ := hC2
  have hn16 := hX.1.1
  have hl1 := hX.1.2.1
  have hl2 := hX.1.2.2.1
  have hh4 := hX.2.1.1
  have ht80 := hT.2.1
  refine lv_aload_n hx hy dX5_errorAt_0 rfl (lv_at hl 0 rfl) ?_
  refine gX5_bench F hI L_X5_10 dX5_errorAt_1 ?_
  refine lv_iload_n hx hy dX5_errorAt_4 rfl (lv_at hl 1 rfl) ?_
  refine zI hI (xV F hI hl (kX0_has l E (u) (b := 0) (n := X.1.1) (by decide) hB.2.1 (by omega) x) M_X5_63 (rX0 F hI (b := 0) (by decide)) rfl ⟨Nat.le_of_ble_eq_true rfl, Nat.le_of_ble_eq_true rfl⟩ ⟨Nat.zero_le _, Nat.zero_le _⟩ rfl (Nat.le_of_ble_eq_true rfl) dX5_errorAt_5) (fun r2 v3 H locs hI hp1 => ?_)
  rcases ixO_cases X.1.1 x (by omega) with hxx | ⟨jx, hljx, rfl, hxx⟩
  · have hp1 : r2 = 0 := hp1.trans (by rw [hxx]; rfl)
    subst hp1
    refine lv_if_ne (tgt := 14) hx hy dX5_errorAt_8 (by decide) (fun q => absurd q (by decide)) (fun _ => ?_)
    refine zc F K_X5_67 dX5_errorAt_11 ?_
    exact rI hQ F (v := (u.1, u.2)) hI dX5_errorAt_13 (by rw [a_errorAt, withL_n hxx]; exact ⟨rfl, hC, SameM.rf _⟩)
  · have hp1 : r2 = 1 := hp1.trans (by rw [hxx]; rfl)
    subst hp1
    have hokjx := hX.1.2.2.2 jx hljx
    have hk6jx := hokjx.1
    have hB9jx := hokjx.2.2.2.2.2.2.1
    have hC9jx := hokjx.2.2.2.2.2.2.2
    refine lv_if_ne (tgt := 14) hx hy dX5_errorAt_8 (by decide) (fun _ => ?_) (fun q => absurd q (by decide))
    refine lv_iload_n hx hy dX5_errorAt_14 rfl (lv_at hl 2 rfl) ?_
    refine lv_iconst (v := nI 1) hx hy dX5_errorAt_15 (by decide) ?_
    refine lv_sipush (v := nI 1000) hx hy dX5_errorAt_16 (by decide) ?_
    refine zI hI (xS F hI hl (kX5_isWithin l E (u) 1 1000 y) M_X5_68 rfl ⟨Nat.le_of_ble_eq_true rfl, Nat.le_of_ble_eq_true rfl⟩ ⟨Nat.zero_le _, Nat.zero_le _⟩ rfl (Nat.le_of_ble_eq_true rfl) dX5_errorAt_19) (fun r5 v6 H locs hI hp4 => ?_)
    rcases rgO_cases 1 1000 y (by decide) (by decide) with hxy | ⟨jy, hmjy, hljy, rfl, hxy⟩
    · have hp4 : r5 = 0 := hp4.trans (by rw [hxy]; rfl)
      subst hp4
      refine lv_if_ne (tgt := 28) hx hy dX5_errorAt_22 (by decide) (fun q => absurd q (by decide)) (fun _ => ?_)
      refine zc F K_X5_58 dX5_errorAt_25 ?_
      exact rI hQ F (v := (u.1, u.2)) hI dX5_errorAt_27 (by rw [a_errorAt, withL_s hxx, withR_n hxy]; exact ⟨rfl, hC, SameM.rf _⟩)
    · have hp4 : r5 = 1 := hp4.trans (by rw [hxy]; rfl)
      subst hp4
      refine lv_if_ne (tgt := 28) hx hy dX5_errorAt_22 (by decide) (fun _ => ?_) (fun q => absurd q (by decide))
      refine lv_aload_n hx hy dX5_errorAt_28 rfl (lv_at hl 0 rfl) ?_
      refine lv_iload_n hx hy dX5_errorAt_29 rfl (lv_at hl 1 rfl) ?_
      refine lv_iload_n hx hy dX5_errorAt_30 rfl (lv_at hl 2 rfl) ?_
      refine zI hI (xV F hI hl (kX5_errorOver l E (u) hC hX jx (by omega) jy (by omega) (by omega)) M_X5_140 (rX5 F hI) rfl ⟨Nat.le_of_ble_eq_true rfl, Nat.le_of_ble_eq_true rfl⟩ ⟨Nat.zero_le _, Nat.zero_le _⟩ rfl (Nat.le_of_ble_eq_true rfl) dX5_errorAt_31) (fun r8 v9 H locs hI hp7 => ?_)
      have hpr := hp7.1
      have hps := hp7.2
      have hsc10 : Scr u.1 v9.1 := (Scr.rf _).tr hps
      have hCs11 := hsc10.rep hC
      have hBhCs11 : RepB 0 v9.1 X.1 := hCs11.1
      refine tI (show _ = nI (errN X.1.2.2 jx jy) from hpr) ?_
      exact rI hQ F (v := (v9.1, v9.2)) hI dX5_errorAt_34 (by rw [a_errorAt, withL_s hxx, withR_s hxy]; exact ⟨rfl, hsc10.rep hC, hsc10.m⟩)
set_option maxHeartbeats 400000 in
set_option maxRecDepth 100000 in
theorem kX5_bit (l : Launch) (E : EV) (u : SS) {X : XS} (hC : RepC u.1 X) (hX : XOk X) (x y : Int32) : CT l yX5_bit cX5_bit 3 (some .int) (Rm 5 121) [.ref (eA E 0), .int (x), .int (y)] E u (Q_i E (fun r v => r = (a_bit X x y).1 ∧ RepC v.1 (a_bit X x y).2 ∧ SameM u.1 v.1) (fun (v : SS) => v)) := by
  refine mstart RX5 (by decide +kernel) rfl (Nat.le_of_ble_eq_true rfl) ?_
  intro p e s m args below meth co ls Q hQ F hI hl
  have hx := F.1
  have hy := F.2.1
  have hl : lv_has ls 3 [(0, .ref (eA E 0)), (1, .int (x)), (2, .int (y))] := hl
  have hC2 := hC
  obtain ⟨hB, ⟨o, hH⟩, hS, hT⟩ := hC2
  have hn16 := hX.1.1
  have hl1 := hX.1.2.1
  have hl2 := hX.1.2.2.1
  have hh4 := hX.2.1.1
  have ht80 := hT.2.1
  refine lv_aload_n hx hy dX5_bit_0 rfl (lv_at hl 0 rfl) ?_
  refine gX5_bench F hI L_X5_10 dX5_bit_1 ?_
  refine lv_iload_n hx hy dX5_bit_4 rfl (lv_at hl 1 rfl) ?_
  refine zI hI (xV F hI hl (kX0_has l E (u) (b := 0) (n := X.1.1) (by decide) hB.2.1 (by omega) x) M_X5_63 (rX0 F hI (b := 0) (by decide)) rfl ⟨Nat.le_of_ble_eq_true rfl, Nat.le_of_ble_eq_true rfl⟩ ⟨Nat.zero_le _, Nat.zero_le _⟩ rfl (Nat.le_of_ble_eq_true rfl) dX5_bit_5) (fun r2 v3 H locs hI hp1 => ?_)
  rcases ixO_cases X.1.1 x (by omega) with hxx | ⟨jx, hljx, rfl, hxx⟩
  · have hp1 : r2 = 0 := hp1.trans (by rw [hxx]; rfl)
    subst hp1
    refine lv_if_ne (tgt := 14) hx hy dX5_bit_8 (by decide) (fun q => absurd q (by decide)) (fun _ => ?_)
    refine zc F K_X5_67 dX5_bit_11 ?_
    exact rI hQ F (v := (u.1, u.2)) hI dX5_bit_13 (by rw [a_bit, withL_n hxx]; exact ⟨rfl, hC, SameM.rf _⟩)
  · have hp1 : r2 = 1 := hp1.trans (by rw [hxx]; rfl)
    subst hp1
    have hokjx := hX.1.2.2.2 jx hljx
    have hk6jx := hokjx.1
    have hB9jx := hokjx.2.2.2.2.2.2.1
    have hC9jx := hokjx.2.2.2.2.2.2.2
    refine lv_if_ne (tgt := 14) hx hy dX5_bit_8 (by decide) (fun _ => ?_) (fun q => absurd q (by decide))
    refine lv_iload_n hx hy dX5_bit_14 rfl (lv_at hl 2 rfl) ?_
    refine lv_iconst (v := nI 0) hx hy dX5_bit_15 (by decide) ?_
    refine lv_sipush (v := nI 999) hx hy dX5_bit_16 (by decide) ?_
    refine zI hI (xS F hI hl (kX5_isWithin l E (u) 0 999 y) M_X5_68 rfl ⟨Nat.le_of_ble_eq_true rfl, Nat.le_of_ble_eq_true rfl⟩ ⟨Nat.zero_le _, Nat.zero_le _⟩ rfl (Nat.le_of_ble_eq_true rfl) dX5_bit_19) (fun r5 v6 H locs hI hp4 => ?_)
    rcases rgO_cases 0 999 y (by decide) (by decide) with hxy | ⟨jy, hmjy, hljy, rfl, hxy⟩
    · have hp4 : r5 = 0 := hp4.trans (by rw [hxy]; rfl)
      subst hp4
      refine lv_if_ne (tgt := 28) hx hy dX5_bit_22 (by decide) (fun q => absurd q (by decide)) (fun _ => ?_)
      refine zc F K_X5_58 dX5_bit_25 ?_
      exact rI hQ F (v := (u.1, u.2)) hI dX5_bit_27 (by rw [a_bit, withL_s hxx, withR_n hxy]; exact ⟨rfl, hC, SameM.rf _⟩)
    · have hp4 : r5 = 1 := hp4.trans (by rw [hxy]; rfl)
      subst hp4
      refine lv_if_ne (tgt := 28) hx hy dX5_bit_22 (by decide) (fun _ => ?_) (fun q => absurd q (by decide))
      refine lv_aload_n hx hy dX5_bit_28 rfl (lv_at hl 0 rfl) ?_
      refine gX5_streams F hI L_X5_50 dX5_bit_29 ?_
      refine lv_aload_n hx hy dX5_bit_32 rfl (lv_at hl 0 rfl) ?_
      refine gX5_bench F hI L_X5_10 dX5_bit_33 ?_
      refine lv_iload_n hx hy dX5_bit_36 rfl (lv_at hl 1 rfl) ?_
      refine lv_iload_n hx hy dX5_bit_37 rfl (lv_at hl 2 rfl) ?_
      refine lv_iconst (v := nI 1) hx hy dX5_bit_38 (by decide) ?_
      refine lv_iadd hx hy dX5_bit_39 ?_
      refine tI (nI_add (jy) (1)) ?_
      refine zV hI (xV F hI hl (kX4_fill l E (u) (b := 0) (n := X.1.1) (f := X.1.2.2) (by decide) hB.2 hn16 hX.1.2.2.2 (nI jx) (jx + 1) (jy + 1) (((jy + 1) + 64 - 1) / 64) (la_j _) (by omega) (by omega) rfl) M_X5_149 (rX4 F hI) rfl ⟨Nat.le_of_ble_eq_true rfl, Nat.le_of_ble_eq_true rfl⟩ ⟨Nat.zero_le _, Nat.zero_le _⟩ rfl (Nat.le_of_ble_eq_true rfl) dX5_bit_40) (fun v9 H locs hI hp7 => ?_)
      refine lv_aload_n hx hy dX5_bit_43 rfl (lv_at hl 0 rfl) ?_
      refine gX5_streams F hI L_X5_50 dX5_bit_44 ?_
      refine lv_iload_n hx hy dX5_bit_47 rfl (lv_at hl 1 rfl) ?_
      refine lv_iload_n hx hy dX5_bit_48 rfl (lv_at hl 2 rfl) ?_
      refine zI hI (xV F hI hl (kX4_bitAt l E ((u.1, v9)) jx jy (by omega) (by omega)) M_X5_153 (rX4 F hI) rfl ⟨Nat.le_of_ble_eq_true rfl, Nat.le_of_ble_eq_true rfl⟩ ⟨Nat.zero_le _, Nat.zero_le _⟩ rfl (Nat.le_of_ble_eq_true rfl) dX5_bit_49) (fun r11 v12 H locs hI hp10 => ?_)
      subst hp10
      refine tI (show _ = nI (bN (gb v9 jx jy)) from rfl) ?_
      exact rI hQ F (v := (u.1, v9)) hI dX5_bit_52 (by rw [a_bit, withL_s hxx, withR_s hxy]; exact ⟨congrArg (fun b9 => nI (bN b9)) (rowG_gb (hp7 jx (by omega)) (by omega)), hC, SameM.rf _⟩)
set_option maxHeartbeats 400000 in
set_option maxRecDepth 100000 in
theorem kX5_settles (l : Launch) (E : EV) (u : SS) {X : XS} (hC : RepC u.1 X) (hX : XOk X) (x y : Int32) : CT l yX5_settles cX5_settles 4 (some .int) (Rm 6 146) [.ref (eA E 0), .int (x), .int (y)] E u (Q_i E (fun r v => r = (a_settles X x y).1 ∧ RepC v.1 (a_settles X x y).2 ∧ SameM u.1 v.1) (fun (v : SS) => v)) := by
  refine mstart RX5 (by decide +kernel) rfl (Nat.le_of_ble_eq_true rfl) ?_
  intro p e s m args below meth co ls Q hQ F hI hl
  have hx := F.1
  have hy := F.2.1
  have hl : lv_has ls 4 [(0, .ref (eA E 0)), (1, .int (x)), (2, .int (y))] := hl
  have hC2 := hC
  obtain ⟨hB, ⟨o, hH⟩, hS, hT⟩ := hC2
  have hn16 := hX.1.1
  have hl1 := hX.1.2.1
  have hl2 := hX.1.2.2.1
  have hh4 := hX.2.1.1
  have ht80 := hT.2.1
  refine lv_aload_n hx hy dX5_settles_0 rfl (lv_at hl 0 rfl) ?_
  refine gX5_bench F hI L_X5_10 dX5_settles_1 ?_
  refine lv_iload_n hx hy dX5_settles_4 rfl (lv_at hl 1 rfl) ?_
  refine zI hI (xV F hI hl (kX0_has l E (u) (b := 0) (n := X.1.1) (by decide) hB.2.1 (by omega) x) M_X5_63 (rX0 F hI (b := 0) (by decide)) rfl ⟨Nat.le_of_ble_eq_true rfl, Nat.le_of_ble_eq_true rfl⟩ ⟨Nat.zero_le _, Nat.zero_le _⟩ rfl (Nat.le_of_ble_eq_true rfl) dX5_settles_5) (fun r2 v3 H locs hI hp1 => ?_)
  rcases ixO_cases X.1.1 x (by omega) with hxx | ⟨jx, hljx, rfl, hxx⟩
  · have hp1 : r2 = 0 := hp1.trans (by rw [hxx]; rfl)
    subst hp1
    refine lv_if_ne (tgt := 14) hx hy dX5_settles_8 (by decide) (fun q => absurd q (by decide)) (fun _ => ?_)
    refine zc F K_X5_67 dX5_settles_11 ?_
    exact rI hQ F (v := (u.1, u.2)) hI dX5_settles_13 (by rw [a_settles, withL_n hxx]; exact ⟨rfl, hC, SameM.rf _⟩)
  · have hp1 : r2 = 1 := hp1.trans (by rw [hxx]; rfl)
    subst hp1
    have hokjx := hX.1.2.2.2 jx hljx
    have hk6jx := hokjx.1
    have hB9jx := hokjx.2.2.2.2.2.2.1
    have hC9jx := hokjx.2.2.2.2.2.2.2
    refine lv_if_ne (tgt := 14) hx hy dX5_settles_8 (by decide) (fun _ => ?_) (fun q => absurd q (by decide))
    refine lv_iload_n hx hy dX5_settles_14 rfl (lv_at hl 2 rfl) ?_
    refine lv_iconst (v := nI 0) hx hy dX5_settles_15 (by decide) ?_
    refine zc F K_X5_170 dX5_settles_16 ?_
    refine tI (show _ = nI 65536 from rfl) ?_
    refine zI hI (xS F hI hl (kX5_isWithin l E (u) 0 65536 y) M_X5_68 rfl ⟨Nat.le_of_ble_eq_true rfl, Nat.le_of_ble_eq_true rfl⟩ ⟨Nat.zero_le _, Nat.zero_le _⟩ rfl (Nat.le_of_ble_eq_true rfl) dX5_settles_18) (fun r5 v6 H locs hI hp4 => ?_)
    rcases rgO_cases 0 65536 y (by decide) (by decide) with hxy | ⟨jy, hmjy, hljy, rfl, hxy⟩
    · have hp4 : r5 = 0 := hp4.trans (by rw [hxy]; rfl)
      subst hp4
      refine lv_if_ne (tgt := 27) hx hy dX5_settles_21 (by decide) (fun q => absurd q (by decide)) (fun _ => ?_)
      refine zc F K_X5_58 dX5_settles_24 ?_
      exact rI hQ F (v := (u.1, u.2)) hI dX5_settles_26 (by rw [a_settles, withL_s hxx, withR_n hxy]; exact ⟨rfl, hC, SameM.rf _⟩)
    · have hp4 : r5 = 1 := hp4.trans (by rw [hxy]; rfl)
      subst hp4
      refine lv_if_ne (tgt := 27) hx hy dX5_settles_21 (by decide) (fun _ => ?_) (fun q => absurd q (by decide))
      refine lv_aload_n hx hy dX5_settles_27 rfl (lv_at hl 0 rfl) ?_
      refine lv_iload_n hx hy dX5_settles_28 rfl (lv_at hl 1 rfl) ?_
      refine lv_iload_n hx hy dX5_settles_29 rfl (lv_at hl 2 rfl) ?_
      refine zI hI (xV F hI hl (kX5_lastLengthBeyond l E (u) hC hX jx (by omega) jy (by omega)) M_X5_171 (rX5 F hI) rfl ⟨Nat.le_of_ble_eq_true rfl, Nat.le_of_ble_eq_true rfl⟩ ⟨Nat.zero_le _, Nat.zero_le _⟩ rfl (Nat.le_of_ble_eq_true rfl) dX5_settles_30) (fun r8 v9 H locs hI hp7 => ?_)
      have hpr := hp7.1
      have hps := hp7.2
      have hsc10 : Scr u.1 v9.1 := (Scr.rf _).tr hps
      have hCs11 := hsc10.rep hC
      have hBhCs11 : RepB 0 v9.1 X.1 := hCs11.1
      refine tI (show _ = nI (lastF X.1.2.2 jx jy 1000) from hpr) ?_
      refine lv_istore_n (lv' := [(3, .int (nI (lastF X.1.2.2 jx jy 1000))), (0, .ref (eA E 0)), (1, .int (nI jx)), (2, .int (nI jy))]) hx hy dX5_settles_33 rfl hl (by decide) rfl (fun ls hl => ?_)
      refine lv_iload_n hx hy dX5_settles_34 rfl (lv_at hl 0 rfl) ?_
      refine lv_sipush (v := nI 1000) hx hy dX5_settles_35 (by decide) ?_
      refine lv_icmp_ne (tgt := 46) hx hy dX5_settles_38 (by decide) (fun h12 => ?_) (fun h12 => ?_)
      · have h12 : lastF X.1.2.2 jx jy 1000 ≠ 1000 := fun q9 => h12 ((nI_eq (a := lastF X.1.2.2 jx jy 1000) (b := 1000) (by have := lastF_le X.1.2.2 jx jy 1000; omega) (by omega)).mpr q9)
        refine lv_iload_n hx hy dX5_settles_46 rfl (lv_at hl 0 rfl) ?_
        refine lv_iconst (v := nI 1) hx hy dX5_settles_47 (by decide) ?_
        refine lv_iadd hx hy dX5_settles_48 ?_
        refine tI (nI_add (lastF X.1.2.2 jx jy 1000) (1)) ?_
        exact rI hQ F (v := (v9.1, v9.2)) hI dX5_settles_49 (by rw [a_settles, withL_s hxx, withR_s hxy]; exact ⟨(if_neg h12).symm, hsc10.rep hC, hsc10.m⟩)
      · have h12 : lastF X.1.2.2 jx jy 1000 = 1000 := (nI_eq (a := lastF X.1.2.2 jx jy 1000) (b := 1000) (by have := lastF_le X.1.2.2 jx jy 1000; omega) (by omega)).mp h12
        refine zc F K_X5_81 dX5_settles_41 ?_
        refine lv_goto (tgt := 49) hx hy dX5_settles_43 (by decide) ?_
        exact rI hQ F (v := (v9.1, v9.2)) hI dX5_settles_49 (by rw [a_settles, withL_s hxx, withR_s hxy]; exact ⟨(if_pos h12).symm, hsc10.rep hC, hsc10.m⟩)
set_option maxHeartbeats 400000 in
set_option maxRecDepth 100000 in
theorem kX5_overlap (l : Launch) (E : EV) (u : SS) {X : XS} (hC : RepC u.1 X) (hX : XOk X) (x y : Int32) : CT l yX5_overlap cX5_overlap 9 (some .int) (Rm 5 121) [.ref (eA E 0), .int (x), .int (y)] E u (Q_i E (fun r v => r = (a_overlap X x y).1 ∧ RepC v.1 (a_overlap X x y).2 ∧ SameM u.1 v.1) (fun (v : SS) => v)) := by
  refine mstart RX5 (by decide +kernel) rfl (Nat.le_of_ble_eq_true rfl) ?_
  intro p e s m args below meth co ls Q hQ F hI hl
  have hx := F.1
  have hy := F.2.1
  have hl : lv_has ls 9 [(0, .ref (eA E 0)), (1, .int (x)), (2, .int (y))] := hl
  have hC2 := hC
  obtain ⟨hB, ⟨o, hH⟩, hS, hT⟩ := hC2
  have hn16 := hX.1.1
  have hl1 := hX.1.2.1
  have hl2 := hX.1.2.2.1
  have hh4 := hX.2.1.1
  have ht80 := hT.2.1
  refine lv_aload_n hx hy dX5_overlap_0 rfl (lv_at hl 0 rfl) ?_
  refine gX5_bench F hI L_X5_10 dX5_overlap_1 ?_
  refine lv_iload_n hx hy dX5_overlap_4 rfl (lv_at hl 1 rfl) ?_
  refine zI hI (xV F hI hl (kX0_has l E (u) (b := 0) (n := X.1.1) (by decide) hB.2.1 (by omega) x) M_X5_63 (rX0 F hI (b := 0) (by decide)) rfl ⟨Nat.le_of_ble_eq_true rfl, Nat.le_of_ble_eq_true rfl⟩ ⟨Nat.zero_le _, Nat.zero_le _⟩ rfl (Nat.le_of_ble_eq_true rfl) dX5_overlap_5) (fun r2 v3 H locs hI hp1 => ?_)
  rcases ixO_cases X.1.1 x (by omega) with hxx | ⟨jx, hljx, rfl, hxx⟩
  · have hp1 : r2 = 0 := hp1.trans (by rw [hxx]; rfl)
    subst hp1
    refine lv_if_eq (tgt := 22) hx hy dX5_overlap_8 (by decide) (fun _ => ?_) (fun q => absurd q (by decide))
    refine zc F K_X5_67 dX5_overlap_22 ?_
    exact rI hQ F (v := (u.1, u.2)) hI dX5_overlap_24 (by rw [a_overlap, withL_n hxx]; exact ⟨rfl, hC, SameM.rf _⟩)
  · have hp1 : r2 = 1 := hp1.trans (by rw [hxx]; rfl)
    subst hp1
    have hokjx := hX.1.2.2.2 jx hljx
    have hk6jx := hokjx.1
    have hB9jx := hokjx.2.2.2.2.2.2.1
    have hC9jx := hokjx.2.2.2.2.2.2.2
    refine lv_if_eq (tgt := 22) hx hy dX5_overlap_8 (by decide) (fun q => absurd q (by decide)) (fun _ => ?_)
    refine lv_aload_n hx hy dX5_overlap_11 rfl (lv_at hl 0 rfl) ?_
    refine gX5_bench F hI L_X5_10 dX5_overlap_12 ?_
    refine lv_iload_n hx hy dX5_overlap_15 rfl (lv_at hl 2 rfl) ?_
    refine zI hI (xV F hI hl (kX0_has l E (u) (b := 0) (n := X.1.1) (by decide) hB.2.1 (by omega) y) M_X5_63 (rX0 F hI (b := 0) (by decide)) rfl ⟨Nat.le_of_ble_eq_true rfl, Nat.le_of_ble_eq_true rfl⟩ ⟨Nat.zero_le _, Nat.zero_le _⟩ rfl (Nat.le_of_ble_eq_true rfl) dX5_overlap_16) (fun r5 v6 H locs hI hp4 => ?_)
    rcases ixO_cases X.1.1 y (by omega) with hxy | ⟨jy, hljy, rfl, hxy⟩
    · have hp4 : r5 = 0 := hp4.trans (by rw [hxy]; rfl)
      subst hp4
      refine lv_if_ne (tgt := 25) hx hy dX5_overlap_19 (by decide) (fun q => absurd q (by decide)) (fun _ => ?_)
      refine zc F K_X5_67 dX5_overlap_22 ?_
      exact rI hQ F (v := (u.1, u.2)) hI dX5_overlap_24 (by rw [a_overlap, withL_s hxx, withL_n hxy]; exact ⟨rfl, hC, SameM.rf _⟩)
    · have hp4 : r5 = 1 := hp4.trans (by rw [hxy]; rfl)
      subst hp4
      have hokjy := hX.1.2.2.2 jy hljy
      have hk6jy := hokjy.1
      have hB9jy := hokjy.2.2.2.2.2.2.1
      have hC9jy := hokjy.2.2.2.2.2.2.2
      refine lv_if_ne (tgt := 25) hx hy dX5_overlap_19 (by decide) (fun _ => ?_) (fun q => absurd q (by decide))
      refine lv_aload_n hx hy dX5_overlap_25 rfl (lv_at hl 0 rfl) ?_
      refine gX5_bench F hI L_X5_10 dX5_overlap_26 ?_
      refine gX0_length F hI (b := 0) (by decide) L_X5_97 dX5_overlap_29 ?_
      refine tI hB.1 ?_
      refine lv_i2l (v := lN (X.1.2.1)) hx hy dX5_overlap_32 (nI_l (by omega)) ?_
      refine lv_lstore_n (lv' := [(3, .long (lN (X.1.2.1))), (0, .ref (eA E 0)), (1, .int (nI jx)), (2, .int (nI jy))]) hx hy dX5_overlap_33 rfl hl (by decide) rfl (fun ls hl => ?_)
      refine lv_lload_n hx hy dX5_overlap_34 rfl (lv_at hl 0 rfl) ?_
      refine lv_lconst (v := lN 1) hx hy dX5_overlap_35 (by decide) ?_
      refine W.lcmp hx hy dX5_overlap_36 ?_
      refine lv_if_ge (tgt := 42) hx hy dX5_overlap_37 (by decide) (fun h7 => ?_) (fun h7 => ?_)
      · have h7 := (lg_cmp_ge _ _).mp h7
        have h7 : 1 ≤ X.1.2.1 := (lNle (a := 1) (b := X.1.2.1) (by omega) (by omega)).mp h7
        refine lv_aload_n hx hy dX5_overlap_42 rfl (lv_at hl 1 rfl) ?_
        refine gX5_streams F hI L_X5_50 dX5_overlap_43 ?_
        refine lv_aload_n hx hy dX5_overlap_46 rfl (lv_at hl 1 rfl) ?_
        refine gX5_bench F hI L_X5_10 dX5_overlap_47 ?_
        refine lv_iload_n hx hy dX5_overlap_50 rfl (lv_at hl 2 rfl) ?_
        refine lv_iload_n hx hy dX5_overlap_51 rfl (lv_at hl 3 rfl) ?_
        refine zm_max F hl M_X5_156 ⟨Nat.le_of_ble_eq_true rfl, Nat.le_of_ble_eq_true rfl⟩ ⟨Nat.zero_le _, Nat.zero_le _⟩ dX5_overlap_52 ?_
        refine tI (mx_nI (a := jx) (b := jy) (by omega) (by omega)) ?_
        refine lv_aload_n hx hy dX5_overlap_55 rfl (lv_at hl 1 rfl) ?_
        refine gX5_bench F hI L_X5_10 dX5_overlap_56 ?_
        refine gX0_length F hI (b := 0) (by decide) L_X5_97 dX5_overlap_59 ?_
        refine tI hB.1 ?_
        refine zV hI (xV F hI hl (kX4_fill l E (u) (b := 0) (n := X.1.1) (f := X.1.2.2) (by decide) hB.2 hn16 hX.1.2.2.2 (nI (max jx jy)) (max jx jy + 1) (X.1.2.1) (((X.1.2.1) + 64 - 1) / 64) (la_j _) (by omega) (by omega) rfl) M_X5_149 (rX4 F hI) rfl ⟨Nat.le_of_ble_eq_true rfl, Nat.le_of_ble_eq_true rfl⟩ ⟨Nat.zero_le _, Nat.zero_le _⟩ rfl (Nat.le_of_ble_eq_true rfl) dX5_overlap_62) (fun v10 H locs hI hp8 => ?_)
        refine lv_aload_n hx hy dX5_overlap_65 rfl (lv_at hl 1 rfl) ?_
        refine gX5_streams F hI L_X5_50 dX5_overlap_66 ?_
        refine lv_iload_n hx hy dX5_overlap_69 rfl (lv_at hl 2 rfl) ?_
        refine lv_iload_n hx hy dX5_overlap_70 rfl (lv_at hl 3 rfl) ?_
        refine lv_aload_n hx hy dX5_overlap_71 rfl (lv_at hl 1 rfl) ?_
        refine gX5_bench F hI L_X5_10 dX5_overlap_72 ?_
        refine gX0_length F hI (b := 0) (by decide) L_X5_97 dX5_overlap_75 ?_
        refine tI hB.1 ?_
        refine zI hI (xV F hI hl (kX4_onesInBoth l E ((u.1, v10)) jx jy (X.1.2.1) (by omega) (by omega) (by omega)) M_X5_161 (rX4 F hI) rfl ⟨Nat.le_of_ble_eq_true rfl, Nat.le_of_ble_eq_true rfl⟩ ⟨Nat.zero_le _, Nat.zero_le _⟩ rfl (Nat.le_of_ble_eq_true rfl) dX5_overlap_78) (fun r12 v13 H locs hI hp11 => ?_)
        subst hp11
        refine tI (show _ = nI (fb_ct (fun t => gb v10 jx t && gb v10 jy t) (X.1.2.1)) from rfl) ?_
        refine tI (congrArg nI (row_both (hp8 jx (by omega)) (hp8 jy (by omega)) (by omega))) ?_
        have hbo : both X.1.2.2 jx jy X.1.2.1 ≤ X.1.2.1 := fb_ct_le _ _
        have hco := cnt_le X.1.2.2 jx X.1.2.1
        have hcp := cnt_le X.1.2.2 jy X.1.2.1
        refine lv_i2l (v := lN (both X.1.2.2 jx jy X.1.2.1)) hx hy dX5_overlap_81 (nI_l (by omega)) ?_
        refine lv_lstore (lv' := [(5, .long (lN (both X.1.2.2 jx jy X.1.2.1))), (3, .long (lN (X.1.2.1))), (0, .ref (eA E 0)), (1, .int (nI jx)), (2, .int (nI jy))]) hx hy dX5_overlap_82 hl (by decide) rfl (fun ls hl => ?_)
        refine lv_aload_n hx hy dX5_overlap_84 rfl (lv_at hl 2 rfl) ?_
        refine gX5_streams F hI L_X5_50 dX5_overlap_85 ?_
        refine lv_iload_n hx hy dX5_overlap_88 rfl (lv_at hl 3 rfl) ?_
        refine lv_aload_n hx hy dX5_overlap_89 rfl (lv_at hl 2 rfl) ?_
        refine gX5_bench F hI L_X5_10 dX5_overlap_90 ?_
        refine gX0_length F hI (b := 0) (by decide) L_X5_97 dX5_overlap_93 ?_
        refine tI hB.1 ?_
        refine zI hI (xV F hI hl (kX4_onesIn l E ((u.1, v10)) jx (X.1.2.1) (by omega) (by omega)) M_X5_165 (rX4 F hI) rfl ⟨Nat.le_of_ble_eq_true rfl, Nat.le_of_ble_eq_true rfl⟩ ⟨Nat.zero_le _, Nat.zero_le _⟩ rfl (Nat.le_of_ble_eq_true rfl) dX5_overlap_96) (fun r15 v16 H locs hI hp14 => ?_)
        subst hp14
        refine tI (show _ = nI (fb_ct (fun t => gb v10 jx t) (X.1.2.1)) from rfl) ?_
        refine tI (congrArg nI (row_cnt (hp8 jx (by omega)) (by omega))) ?_
        refine lv_i2l (v := lN (cnt X.1.2.2 jx X.1.2.1)) hx hy dX5_overlap_99 (nI_l (by omega)) ?_
        refine lv_aload_n hx hy dX5_overlap_100 rfl (lv_at hl 2 rfl) ?_
        refine gX5_streams F hI L_X5_50 dX5_overlap_101 ?_
        refine lv_iload_n hx hy dX5_overlap_104 rfl (lv_at hl 4 rfl) ?_
        refine lv_aload_n hx hy dX5_overlap_105 rfl (lv_at hl 2 rfl) ?_
        refine gX5_bench F hI L_X5_10 dX5_overlap_106 ?_
        refine gX0_length F hI (b := 0) (by decide) L_X5_97 dX5_overlap_109 ?_
        refine tI hB.1 ?_
        refine zI hI (xV F hI hl (kX4_onesIn l E ((u.1, v10)) jy (X.1.2.1) (by omega) (by omega)) M_X5_165 (rX4 F hI) rfl ⟨Nat.le_of_ble_eq_true rfl, Nat.le_of_ble_eq_true rfl⟩ ⟨Nat.zero_le _, Nat.zero_le _⟩ rfl (Nat.le_of_ble_eq_true rfl) dX5_overlap_112) (fun r18 v19 H locs hI hp17 => ?_)
        subst hp17
        refine tI (show _ = nI (fb_ct (fun t => gb v10 jy t) (X.1.2.1)) from rfl) ?_
        refine tI (congrArg nI (row_cnt (hp8 jy (by omega)) (by omega))) ?_
        refine lv_i2l (v := lN (cnt X.1.2.2 jy X.1.2.1)) hx hy dX5_overlap_115 (nI_l (by omega)) ?_
        refine lv_lmul hx hy dX5_overlap_116 ?_
        refine tL (lN_mul (cnt X.1.2.2 jx X.1.2.1) (cnt X.1.2.2 jy X.1.2.1)) ?_
        refine lv_lstore (lv' := [(7, .long (lN ((cnt X.1.2.2 jx X.1.2.1) * (cnt X.1.2.2 jy X.1.2.1)))), (5, .long (lN (both X.1.2.2 jx jy X.1.2.1))), (3, .long (lN (X.1.2.1))), (0, .ref (eA E 0)), (1, .int (nI jx)), (2, .int (nI jy))]) hx hy dX5_overlap_117 hl (by decide) rfl (fun ls hl => ?_)
        refine lv_lload hx hy dX5_overlap_119 (lv_at hl 1 rfl) ?_
        refine lv_lload_n hx hy dX5_overlap_121 rfl (lv_at hl 2 rfl) ?_
        refine lv_lmul hx hy dX5_overlap_122 ?_
        refine tL (lN_mul (both X.1.2.2 jx jy X.1.2.1) (X.1.2.1)) ?_
        refine lv_lload hx hy dX5_overlap_123 (lv_at hl 0 rfl) ?_
        refine lv_lsub hx hy dX5_overlap_125 ?_
        refine zcl F K_X5_168 dX5_overlap_126 ?_
        refine tL (show _ = lN 65536 from rfl) ?_
        refine lv_lmul hx hy dX5_overlap_129 ?_
        refine lv_lload_n hx hy dX5_overlap_130 rfl (lv_at hl 2 rfl) ?_
        refine lv_lload_n hx hy dX5_overlap_131 rfl (lv_at hl 2 rfl) ?_
        refine lv_lmul hx hy dX5_overlap_132 ?_
        refine tL (lN_mul (X.1.2.1) (X.1.2.1)) ?_
        refine lv_ldiv hx hy dX5_overlap_133 (len_ne hl1 hl2) ?_
        refine lv_l2i (v := Int64.toInt32 ((((lN ((both X.1.2.2 jx jy X.1.2.1) * (X.1.2.1))) - (lN ((cnt X.1.2.2 jx X.1.2.1) * (cnt X.1.2.2 jy X.1.2.1)))) * (lN 65536)) / (lN ((X.1.2.1) * (X.1.2.1))))) hx hy dX5_overlap_134 rfl ?_
        exact rI hQ F (v := (u.1, v10)) hI dX5_overlap_135 (by rw [a_overlap, withL_s hxx, withL_s hxy]; exact ⟨rfl, hC, SameM.rf _⟩)
      · have h7 := fun q9 => h7 ((lg_cmp_ge _ _).mpr q9)
        have h7 : ¬ 1 ≤ X.1.2.1 := fun q9 => h7 ((lNle (a := 1) (b := X.1.2.1) (by omega) (by omega)).mpr q9)
        exact absurd (by omega) h7
set_option maxHeartbeats 400000 in
set_option maxRecDepth 100000 in
theorem kX5_unlike (l : Launch) (E : EV) (u : SS) {X : XS} (hC : RepC u.1 X) (hX : XOk X) (x : Int32) : CT l yX5_unlike cX5_unlike 4 (some .int) (Rm 5 121) [.ref (eA E 0), .int (x)] E u (Q_i E (fun r v => r = (a_unlike X x).1 ∧ RepC v.1 (a_unlike X x).2 ∧ SameM u.1 v.1) (fun (v : SS) => v)) := by
  refine mstart RX5 (by decide +kernel) rfl (Nat.le_of_ble_eq_true rfl) ?_
  intro p e s m args below meth co ls Q hQ F hI hl
  have hx := F.1
  have hy := F.2.1
  have hl : lv_has ls 4 [(0, .ref (eA E 0)), (1, .int (x))] := hl
  have hC2 := hC
  obtain ⟨hB, ⟨o, hH⟩, hS, hT⟩ := hC2
  have hn16 := hX.1.1
  have hl1 := hX.1.2.1
  have hl2 := hX.1.2.2.1
  have hh4 := hX.2.1.1
  have ht80 := hT.2.1
  refine lv_aload_n hx hy dX5_unlike_0 rfl (lv_at hl 0 rfl) ?_
  refine gX5_bench F hI L_X5_10 dX5_unlike_1 ?_
  refine lv_iload_n hx hy dX5_unlike_4 rfl (lv_at hl 1 rfl) ?_
  refine zI hI (xV F hI hl (kX0_has l E (u) (b := 0) (n := X.1.1) (by decide) hB.2.1 (by omega) x) M_X5_63 (rX0 F hI (b := 0) (by decide)) rfl ⟨Nat.le_of_ble_eq_true rfl, Nat.le_of_ble_eq_true rfl⟩ ⟨Nat.zero_le _, Nat.zero_le _⟩ rfl (Nat.le_of_ble_eq_true rfl) dX5_unlike_5) (fun r2 v3 H locs hI hp1 => ?_)
  rcases ixO_cases X.1.1 x (by omega) with hxx | ⟨jx, hljx, rfl, hxx⟩
  · have hp1 : r2 = 0 := hp1.trans (by rw [hxx]; rfl)
    subst hp1
    refine lv_if_ne (tgt := 14) hx hy dX5_unlike_8 (by decide) (fun q => absurd q (by decide)) (fun _ => ?_)
    refine zc F K_X5_67 dX5_unlike_11 ?_
    exact rI hQ F (v := (u.1, u.2)) hI dX5_unlike_13 (by rw [a_unlike, withL_n hxx]; exact ⟨rfl, hC, SameM.rf _⟩)
  · have hp1 : r2 = 1 := hp1.trans (by rw [hxx]; rfl)
    subst hp1
    have hokjx := hX.1.2.2.2 jx hljx
    have hk6jx := hokjx.1
    have hB9jx := hokjx.2.2.2.2.2.2.1
    have hC9jx := hokjx.2.2.2.2.2.2.2
    refine lv_if_ne (tgt := 14) hx hy dX5_unlike_8 (by decide) (fun _ => ?_) (fun q => absurd q (by decide))
    refine lv_aload_n hx hy dX5_unlike_14 rfl (lv_at hl 0 rfl) ?_
    refine gX5_streams F hI L_X5_50 dX5_unlike_15 ?_
    refine lv_aload_n hx hy dX5_unlike_18 rfl (lv_at hl 0 rfl) ?_
    refine gX5_bench F hI L_X5_10 dX5_unlike_19 ?_
    refine lv_iload_n hx hy dX5_unlike_22 rfl (lv_at hl 1 rfl) ?_
    refine lv_sipush (v := nI 510) hx hy dX5_unlike_23 (by decide) ?_
    refine zV hI (xV F hI hl (kX4_fill l E (u) (b := 0) (n := X.1.1) (f := X.1.2.2) (by decide) hB.2 hn16 hX.1.2.2.2 (nI jx) (jx + 1) (510) ((510 + 64 - 1) / 64) (la_j _) (by omega) (by omega) rfl) M_X5_149 (rX4 F hI) rfl ⟨Nat.le_of_ble_eq_true rfl, Nat.le_of_ble_eq_true rfl⟩ ⟨Nat.zero_le _, Nat.zero_le _⟩ rfl (Nat.le_of_ble_eq_true rfl) dX5_unlike_26) (fun v6 H locs hI hp4 => ?_)
    refine lv_iconst (v := nI 0) hx hy dX5_unlike_29 (by decide) ?_
    refine lv_istore_n (lv' := [(2, .int (nI 0)), (0, .ref (eA E 0)), (1, .int (nI jx))]) hx hy dX5_unlike_30 rfl hl (by decide) rfl (fun ls hl => ?_)
    refine lv_bipush (v := nI 60) hx hy dX5_unlike_31 (by decide) ?_
    refine lv_istore_n (lv' := [(3, .int (nI 60)), (2, .int (nI 0)), (0, .ref (eA E 0)), (1, .int (nI jx))]) hx hy dX5_unlike_33 rfl hl (by decide) rfl (fun ls hl => ?_)
    have lp7 : ∀ (fu : Nat) (k : Nat), (k ≤ 195) → (195 - k < fu) →  ∀ (H : Heap) (locs : List Loc) (ls : Array Slot), Iv E s H locs ((u.1, v6)) → lv_has ls 4 [(3, .int (nI (60 + k))), (2, .int (nI (unlF X.1.2.2 jx k))), (0, .ref (eA E 0)), (1, .int (nI jx))] → W p l e (Rm 5 121) s m args below meth co H locs 0 0 Q (F0 m 34 ls []) := by
      intro fu
      induction fu with
      | zero => intro k hi hf; exact absurd hf (Nat.not_lt_zero _)
      | succ fu ih =>
        intro k hi hf H locs ls hI hl
        have ih_34 := ih
        refine lv_iload_n hx hy dX5_unlike_34 rfl (lv_at hl 0 rfl) ?_
        refine lv_sipush (v := nI 255) hx hy dX5_unlike_35 (by decide) ?_
        refine lv_icmp_ge (tgt := 75) hx hy dX5_unlike_38 (by decide) (fun h8 => ?_) (fun h8 => ?_)
        · have h8 : 255 ≤ 60 + k := (nI_leI (a := 255) (b := 60 + k) (by omega) (by omega)).mp h8
          refine lv_iload_n hx hy dX5_unlike_75 rfl (lv_at hl 1 rfl) ?_
          exact rI hQ F (v := (u.1, v6)) hI dX5_unlike_76 (by rw [a_unlike, withL_s hxx]; exact ⟨by rw [show k = 195 from by omega], hC, SameM.rf _⟩)
        · have h8 : 60 + k < 255 := Nat.lt_of_not_le (fun q9 => h8 ((nI_leI (a := 255) (b := 60 + k) (by omega) (by omega)).mpr q9))
          refine lv_aload_n hx hy dX5_unlike_41 rfl (lv_at hl 2 rfl) ?_
          refine gX5_streams F hI L_X5_50 dX5_unlike_42 ?_
          refine lv_iload_n hx hy dX5_unlike_45 rfl (lv_at hl 3 rfl) ?_
          refine lv_iload_n hx hy dX5_unlike_46 rfl (lv_at hl 0 rfl) ?_
          refine zI hI (xV F hI hl (kX4_bitAt l E ((u.1, v6)) jx (60 + k) (by omega) (by omega)) M_X5_153 (rX4 F hI) rfl ⟨Nat.le_of_ble_eq_true rfl, Nat.le_of_ble_eq_true rfl⟩ ⟨Nat.zero_le _, Nat.zero_le _⟩ rfl (Nat.le_of_ble_eq_true rfl) dX5_unlike_47) (fun r10 v11 H locs hI hp9 => ?_)
          subst hp9
          refine tI (show _ = nI (bN (gb v6 jx (60 + k))) from rfl) ?_
          refine lv_aload_n hx hy dX5_unlike_50 rfl (lv_at hl 2 rfl) ?_
          refine gX5_streams F hI L_X5_50 dX5_unlike_51 ?_
          refine lv_iload_n hx hy dX5_unlike_54 rfl (lv_at hl 3 rfl) ?_
          refine lv_iload_n hx hy dX5_unlike_55 rfl (lv_at hl 0 rfl) ?_
          refine lv_sipush (v := nI 255) hx hy dX5_unlike_56 (by decide) ?_
          refine lv_iadd hx hy dX5_unlike_59 ?_
          refine tI (nI_add (60 + k) (255)) ?_
          refine zI hI (xV F hI hl (kX4_bitAt l E ((u.1, v6)) jx (60 + k + 255) (by omega) (by omega)) M_X5_153 (rX4 F hI) rfl ⟨Nat.le_of_ble_eq_true rfl, Nat.le_of_ble_eq_true rfl⟩ ⟨Nat.zero_le _, Nat.zero_le _⟩ rfl (Nat.le_of_ble_eq_true rfl) dX5_unlike_60) (fun r13 v14 H locs hI hp12 => ?_)
          subst hp12
          refine tI (show _ = nI (bN (gb v6 jx (60 + k + 255))) from rfl) ?_
          refine lv_icmp_eq (tgt := 69) hx hy dX5_unlike_63 (by decide) (fun h15 => ?_) (fun h15 => ?_)
          · have h15 : bN (gb v6 jx (60 + k)) = bN (gb v6 jx (60 + k + 255)) := (nI_eq (a := bN (gb v6 jx (60 + k))) (b := bN (gb v6 jx (60 + k + 255))) (by have := bN_le (gb v6 jx (60 + k)); omega) (by have := bN_le (gb v6 jx (60 + k + 255)); omega)).mp h15
            have e7 : unlF X.1.2.2 jx (k + 1) = _ := unl_eq (by rw [rowG_gb (hp4 jx (by omega)) (show 60 + k < _ by omega), rowG_gb (hp4 jx (by omega)) (show 60 + k + 255 < _ by omega)] at h15; exact h15)
            have hl : lv_has ls 4 [(3, .int (nI (60 + k))), (2, .int (nI (unlF X.1.2.2 jx (k + 1)))), (0, .ref (eA E 0)), (1, .int (nI jx))] := by rw [e7]; exact hl
            refine lv_iinc (v := nI (60 + k + 1)) (lv' := [(3, .int (nI (60 + k + 1))), (2, .int (nI (unlF X.1.2.2 jx (k + 1)))), (0, .ref (eA E 0)), (1, .int (nI jx))]) hx hy dX5_unlike_69 hl (k := 0) rfl (nI_add (60 + k) 1) (by decide) rfl (fun ls hl => ?_)
            refine lv_goto (tgt := 34) hx hy dX5_unlike_72 (by decide) ?_
            exact ih_34 (k + 1) (by omega) (by omega) _ _ _ hI (lv_sub hl [0, 1, 2, 3] rfl)
          · have h15 : bN (gb v6 jx (60 + k)) ≠ bN (gb v6 jx (60 + k + 255)) := fun q9 => h15 ((nI_eq (a := bN (gb v6 jx (60 + k))) (b := bN (gb v6 jx (60 + k + 255))) (by have := bN_le (gb v6 jx (60 + k)); omega) (by have := bN_le (gb v6 jx (60 + k + 255)); omega)).mpr q9)
            refine lv_iinc (v := nI (unlF X.1.2.2 jx k + 1)) (lv' := [(2, .int (nI (unlF X.1.2.2 jx k + 1))), (3, .int (nI (60 + k))), (0, .ref (eA E 0)), (1, .int (nI jx))]) hx hy dX5_unlike_66 hl (k := 1) rfl (nI_add (unlF X.1.2.2 jx k) 1) (by decide) rfl (fun ls hl => ?_)
            have e7 : unlF X.1.2.2 jx (k + 1) = _ := unl_ne (by rw [rowG_gb (hp4 jx (by omega)) (show 60 + k < _ by omega), rowG_gb (hp4 jx (by omega)) (show 60 + k + 255 < _ by omega)] at h15; exact h15)
            have hl : lv_has ls 4 [(2, .int (nI (unlF X.1.2.2 jx (k + 1)))), (3, .int (nI (60 + k))), (0, .ref (eA E 0)), (1, .int (nI jx))] := by rw [e7]; exact hl
            refine lv_iinc (v := nI (60 + k + 1)) (lv' := [(3, .int (nI (60 + k + 1))), (2, .int (nI (unlF X.1.2.2 jx (k + 1)))), (0, .ref (eA E 0)), (1, .int (nI jx))]) hx hy dX5_unlike_69 hl (k := 1) rfl (nI_add (60 + k) 1) (by decide) rfl (fun ls hl => ?_)
            refine lv_goto (tgt := 34) hx hy dX5_unlike_72 (by decide) ?_
            exact ih_34 (k + 1) (by omega) (by omega) _ _ _ hI (lv_sub hl [0, 1, 2, 3] rfl)
    exact lp7 196 0 (by omega) (by omega) _ _ _ hI (lv_sub hl [0, 1, 2, 3] rfl)
end
section
set_option maxHeartbeats 400000 in
set_option maxRecDepth 100000 in
theorem kX5_line (l : Launch) (E : EV) (u : SS) {X : XS} (hC : RepC u.1 X) (hX : XOk X) (x y : Int32) : CT l yX5_line cX5_line 3 (some .int) (Rm 6 143) [.ref (eA E 0), .int (x), .int (y)] E u (Q_i E (fun r v => r = (a_line X x y).1 ∧ RepC v.1 (a_line X x y).2 ∧ SameM u.1 v.1) (fun (v : SS) => v)) := by
  refine mstart RX5 (by decide +kernel) rfl (Nat.le_of_ble_eq_true rfl) ?_
  intro p e s m args below meth co ls Q hQ F hI hl
  have hx := F.1
  have hy := F.2.1
  have hl : lv_has ls 3 [(0, .ref (eA E 0)), (1, .int (x)), (2, .int (y))] := hl
  have hC2 := hC
  obtain ⟨hB, ⟨o, hH⟩, hS, hT⟩ := hC2
  have hn16 := hX.1.1
  have hl1 := hX.1.2.1
  have hl2 := hX.1.2.2.1
  have hh4 := hX.2.1.1
  have ht80 := hT.2.1
  refine lv_aload_n hx hy dX5_line_0 rfl (lv_at hl 0 rfl) ?_
  refine gX5_bench F hI L_X5_10 dX5_line_1 ?_
  refine lv_iload_n hx hy dX5_line_4 rfl (lv_at hl 1 rfl) ?_
  refine zI hI (xV F hI hl (kX0_has l E (u) (b := 0) (n := X.1.1) (by decide) hB.2.1 (by omega) x) M_X5_63 (rX0 F hI (b := 0) (by decide)) rfl ⟨Nat.le_of_ble_eq_true rfl, Nat.le_of_ble_eq_true rfl⟩ ⟨Nat.zero_le _, Nat.zero_le _⟩ rfl (Nat.le_of_ble_eq_true rfl) dX5_line_5) (fun r2 v3 H locs hI hp1 => ?_)
  rcases ixO_cases X.1.1 x (by omega) with hxx | ⟨jx, hljx, rfl, hxx⟩
  · have hp1 : r2 = 0 := hp1.trans (by rw [hxx]; rfl)
    subst hp1
    refine lv_if_ne (tgt := 14) hx hy dX5_line_8 (by decide) (fun q => absurd q (by decide)) (fun _ => ?_)
    refine zc F K_X5_67 dX5_line_11 ?_
    exact rI hQ F (v := (u.1, u.2)) hI dX5_line_13 (by rw [a_line, withL_n hxx]; exact ⟨rfl, hC, SameM.rf _⟩)
  · have hp1 : r2 = 1 := hp1.trans (by rw [hxx]; rfl)
    subst hp1
    have hokjx := hX.1.2.2.2 jx hljx
    have hk6jx := hokjx.1
    have hB9jx := hokjx.2.2.2.2.2.2.1
    have hC9jx := hokjx.2.2.2.2.2.2.2
    refine lv_if_ne (tgt := 14) hx hy dX5_line_8 (by decide) (fun _ => ?_) (fun q => absurd q (by decide))
    refine lv_iload_n hx hy dX5_line_14 rfl (lv_at hl 2 rfl) ?_
    rcases rgO_cases 0 9 y (by decide) (by decide) with hxy | ⟨jy, hmjy, hljy, rfl, hxy⟩
    · refine lv_tableOut (tgt := 216) hx hy dX5_line_15 (rgO_out (by decide) (by decide) hxy) (by decide) ?_
      refine zc F K_X5_58 dX5_line_216 ?_
      exact rI hQ F (v := (u.1, u.2)) hI dX5_line_218 (by rw [a_line, withL_s hxx, withR_n hxy]; exact ⟨rfl, hC, SameM.rf _⟩)
    · rcases (show jy = 0 ∨ jy = 1 ∨ jy = 2 ∨ jy = 3 ∨ jy = 4 ∨ jy = 5 ∨ jy = 6 ∨ jy = 7 ∨ jy = 8 ∨ jy = 9 by omega) with rfl | rfl | rfl | rfl | rfl | rfl | rfl | rfl | rfl | rfl
      · refine lv_tableIn (tgt := 68) hx hy dX5_line_15 (by decide) (by decide) (by rfl) (by decide) ?_
        refine lv_aload_n hx hy dX5_line_68 rfl (lv_at hl 0 rfl) ?_
        refine gX5_bench F hI L_X5_10 dX5_line_69 ?_
        refine lv_iload_n hx hy dX5_line_72 rfl (lv_at hl 1 rfl) ?_
        refine zI hI (xV F hI hl (kX0_kindOf l E (u) (b := 0) (by decide) (nI jx)) M_X5_72 (rX0 F hI (b := 0) (by decide)) rfl ⟨Nat.le_of_ble_eq_true rfl, Nat.le_of_ble_eq_true rfl⟩ ⟨Nat.zero_le _, Nat.zero_le _⟩ rfl (Nat.le_of_ble_eq_true rfl) dX5_line_73) (fun r5 v6 H locs hI hp4 => ?_)
        rw [el_lt (by omega) (by decide)] at hp4
        subst hp4
        refine tI (hB.2.2 jx hljx).1 ?_
        exact rI hQ F (v := (u.1, u.2)) hI dX5_line_76 (by rw [a_line, withL_s hxx, withR_s hxy]; exact ⟨rfl, hC, SameM.rf _⟩)
      · refine lv_tableIn (tgt := 77) hx hy dX5_line_15 (by decide) (by decide) (by rfl) (by decide) ?_
        refine lv_iload_n hx hy dX5_line_77 rfl (lv_at hl 2 rfl) ?_
        refine lv_aload_n hx hy dX5_line_78 rfl (lv_at hl 0 rfl) ?_
        refine gX5_bench F hI L_X5_10 dX5_line_79 ?_
        refine lv_iload_n hx hy dX5_line_82 rfl (lv_at hl 1 rfl) ?_
        refine zI hI (xV F hI hl (kX0_kindOf l E (u) (b := 0) (by decide) (nI jx)) M_X5_72 (rX0 F hI (b := 0) (by decide)) rfl ⟨Nat.le_of_ble_eq_true rfl, Nat.le_of_ble_eq_true rfl⟩ ⟨Nat.zero_le _, Nat.zero_le _⟩ rfl (Nat.le_of_ble_eq_true rfl) dX5_line_83) (fun r8 v9 H locs hI hp7 => ?_)
        rw [el_lt (by omega) (by decide)] at hp7
        subst hp7
        refine tI (hB.2.2 jx hljx).1 ?_
        refine zI hI (xS F hI hl (kX5_numbersOfKind l E (u) ((X.1.2.2 jx).1) (by omega)) M_X5_125 rfl ⟨Nat.le_of_ble_eq_true rfl, Nat.le_of_ble_eq_true rfl⟩ ⟨Nat.zero_le _, Nat.zero_le _⟩ rfl (Nat.le_of_ble_eq_true rfl) dX5_line_86) (fun r11 v12 H locs hI hp10 => ?_)
        subst hp10
        refine tI (tbl_np _ (by omega)) ?_
        have hnp := npK_le (X.1.2.2 jx).1 (by omega)
        refine lv_icmp_le (tgt := 97) hx hy dX5_line_89 (by decide) (fun h13 => ?_) (fun h13 => ?_)
        · have h13 : 1 ≤ npK (X.1.2.2 jx).1 := (nI_leI (a := 1) (b := npK (X.1.2.2 jx).1) (by omega) (by omega)).mp h13
          refine lv_aload_n hx hy dX5_line_97 rfl (lv_at hl 0 rfl) ?_
          refine gX5_bench F hI L_X5_10 dX5_line_98 ?_
          refine lv_iload_n hx hy dX5_line_101 rfl (lv_at hl 1 rfl) ?_
          refine lv_iload_n hx hy dX5_line_102 rfl (lv_at hl 2 rfl) ?_
          refine zI hI (xV F hI hl (kX0_numberOf l E (u) (b := 0) (by decide) (nI jx) (nI 1)) M_X5_77 (rX0 F hI (b := 0) (by decide)) rfl ⟨Nat.le_of_ble_eq_true rfl, Nat.le_of_ble_eq_true rfl⟩ ⟨Nat.zero_le _, Nat.zero_le _⟩ rfl (Nat.le_of_ble_eq_true rfl) dX5_line_103) (fun r15 v16 H locs hI hp14 => ?_)
          rw [show nI jx * nI 3 + nI 1 - nI 1 = nI (3 * jx) from ix3 jx 0, el_lt (by omega) (by decide)] at hp14
          subst hp14
          refine tI (hB.2.2 jx hljx).2.1 ?_
          exact rI hQ F (v := (u.1, u.2)) hI dX5_line_106 (by rw [a_line, withL_s hxx, withR_s hxy]; exact ⟨(show (if npK (X.1.2.2 jx).1 < 1 then NON else nI (X.1.2.2 jx).2.1) = nI (X.1.2.2 jx).2.1 from if_neg (by omega)).symm, hC, SameM.rf _⟩)
        · have h13 : npK (X.1.2.2 jx).1 < 1 := Nat.lt_of_not_le (fun q9 => h13 ((nI_leI (a := 1) (b := npK (X.1.2.2 jx).1) (by omega) (by omega)).mpr q9))
          refine zc F K_X5_81 dX5_line_92 ?_
          refine lv_goto (tgt := 106) hx hy dX5_line_94 (by decide) ?_
          exact rI hQ F (v := (u.1, u.2)) hI dX5_line_106 (by rw [a_line, withL_s hxx, withR_s hxy]; exact ⟨(show (if npK (X.1.2.2 jx).1 < 1 then NON else nI (X.1.2.2 jx).2.1) = NON from if_pos (by omega)).symm, hC, SameM.rf _⟩)
      · refine lv_tableIn (tgt := 77) hx hy dX5_line_15 (by decide) (by decide) (by rfl) (by decide) ?_
        refine lv_iload_n hx hy dX5_line_77 rfl (lv_at hl 2 rfl) ?_
        refine lv_aload_n hx hy dX5_line_78 rfl (lv_at hl 0 rfl) ?_
        refine gX5_bench F hI L_X5_10 dX5_line_79 ?_
        refine lv_iload_n hx hy dX5_line_82 rfl (lv_at hl 1 rfl) ?_
        refine zI hI (xV F hI hl (kX0_kindOf l E (u) (b := 0) (by decide) (nI jx)) M_X5_72 (rX0 F hI (b := 0) (by decide)) rfl ⟨Nat.le_of_ble_eq_true rfl, Nat.le_of_ble_eq_true rfl⟩ ⟨Nat.zero_le _, Nat.zero_le _⟩ rfl (Nat.le_of_ble_eq_true rfl) dX5_line_83) (fun r18 v19 H locs hI hp17 => ?_)
        rw [el_lt (by omega) (by decide)] at hp17
        subst hp17
        refine tI (hB.2.2 jx hljx).1 ?_
        refine zI hI (xS F hI hl (kX5_numbersOfKind l E (u) ((X.1.2.2 jx).1) (by omega)) M_X5_125 rfl ⟨Nat.le_of_ble_eq_true rfl, Nat.le_of_ble_eq_true rfl⟩ ⟨Nat.zero_le _, Nat.zero_le _⟩ rfl (Nat.le_of_ble_eq_true rfl) dX5_line_86) (fun r21 v22 H locs hI hp20 => ?_)
        subst hp20
        refine tI (tbl_np _ (by omega)) ?_
        have hnp := npK_le (X.1.2.2 jx).1 (by omega)
        refine lv_icmp_le (tgt := 97) hx hy dX5_line_89 (by decide) (fun h23 => ?_) (fun h23 => ?_)
        · have h23 : 2 ≤ npK (X.1.2.2 jx).1 := (nI_leI (a := 2) (b := npK (X.1.2.2 jx).1) (by omega) (by omega)).mp h23
          refine lv_aload_n hx hy dX5_line_97 rfl (lv_at hl 0 rfl) ?_
          refine gX5_bench F hI L_X5_10 dX5_line_98 ?_
          refine lv_iload_n hx hy dX5_line_101 rfl (lv_at hl 1 rfl) ?_
          refine lv_iload_n hx hy dX5_line_102 rfl (lv_at hl 2 rfl) ?_
          refine zI hI (xV F hI hl (kX0_numberOf l E (u) (b := 0) (by decide) (nI jx) (nI 2)) M_X5_77 (rX0 F hI (b := 0) (by decide)) rfl ⟨Nat.le_of_ble_eq_true rfl, Nat.le_of_ble_eq_true rfl⟩ ⟨Nat.zero_le _, Nat.zero_le _⟩ rfl (Nat.le_of_ble_eq_true rfl) dX5_line_103) (fun r25 v26 H locs hI hp24 => ?_)
          rw [show nI jx * nI 3 + nI 2 - nI 1 = nI (3 * jx + 1) from ix3 jx 1, el_lt (by omega) (by decide)] at hp24
          subst hp24
          refine tI (hB.2.2 jx hljx).2.2.1 ?_
          exact rI hQ F (v := (u.1, u.2)) hI dX5_line_106 (by rw [a_line, withL_s hxx, withR_s hxy]; exact ⟨(show (if npK (X.1.2.2 jx).1 < 2 then NON else nI (X.1.2.2 jx).2.2.1) = nI (X.1.2.2 jx).2.2.1 from if_neg (by omega)).symm, hC, SameM.rf _⟩)
        · have h23 : npK (X.1.2.2 jx).1 < 2 := Nat.lt_of_not_le (fun q9 => h23 ((nI_leI (a := 2) (b := npK (X.1.2.2 jx).1) (by omega) (by omega)).mpr q9))
          refine zc F K_X5_81 dX5_line_92 ?_
          refine lv_goto (tgt := 106) hx hy dX5_line_94 (by decide) ?_
          exact rI hQ F (v := (u.1, u.2)) hI dX5_line_106 (by rw [a_line, withL_s hxx, withR_s hxy]; exact ⟨(show (if npK (X.1.2.2 jx).1 < 2 then NON else nI (X.1.2.2 jx).2.2.1) = NON from if_pos (by omega)).symm, hC, SameM.rf _⟩)
      · refine lv_tableIn (tgt := 77) hx hy dX5_line_15 (by decide) (by decide) (by rfl) (by decide) ?_
        refine lv_iload_n hx hy dX5_line_77 rfl (lv_at hl 2 rfl) ?_
        refine lv_aload_n hx hy dX5_line_78 rfl (lv_at hl 0 rfl) ?_
        refine gX5_bench F hI L_X5_10 dX5_line_79 ?_
        refine lv_iload_n hx hy dX5_line_82 rfl (lv_at hl 1 rfl) ?_
        refine zI hI (xV F hI hl (kX0_kindOf l E (u) (b := 0) (by decide) (nI jx)) M_X5_72 (rX0 F hI (b := 0) (by decide)) rfl ⟨Nat.le_of_ble_eq_true rfl, Nat.le_of_ble_eq_true rfl⟩ ⟨Nat.zero_le _, Nat.zero_le _⟩ rfl (Nat.le_of_ble_eq_true rfl) dX5_line_83) (fun r28 v29 H locs hI hp27 => ?_)
        rw [el_lt (by omega) (by decide)] at hp27
        subst hp27
        refine tI (hB.2.2 jx hljx).1 ?_
        refine zI hI (xS F hI hl (kX5_numbersOfKind l E (u) ((X.1.2.2 jx).1) (by omega)) M_X5_125 rfl ⟨Nat.le_of_ble_eq_true rfl, Nat.le_of_ble_eq_true rfl⟩ ⟨Nat.zero_le _, Nat.zero_le _⟩ rfl (Nat.le_of_ble_eq_true rfl) dX5_line_86) (fun r31 v32 H locs hI hp30 => ?_)
        subst hp30
        refine tI (tbl_np _ (by omega)) ?_
        have hnp := npK_le (X.1.2.2 jx).1 (by omega)
        refine lv_icmp_le (tgt := 97) hx hy dX5_line_89 (by decide) (fun h33 => ?_) (fun h33 => ?_)
        · have h33 : 3 ≤ npK (X.1.2.2 jx).1 := (nI_leI (a := 3) (b := npK (X.1.2.2 jx).1) (by omega) (by omega)).mp h33
          refine lv_aload_n hx hy dX5_line_97 rfl (lv_at hl 0 rfl) ?_
          refine gX5_bench F hI L_X5_10 dX5_line_98 ?_
          refine lv_iload_n hx hy dX5_line_101 rfl (lv_at hl 1 rfl) ?_
          refine lv_iload_n hx hy dX5_line_102 rfl (lv_at hl 2 rfl) ?_
          refine zI hI (xV F hI hl (kX0_numberOf l E (u) (b := 0) (by decide) (nI jx) (nI 3)) M_X5_77 (rX0 F hI (b := 0) (by decide)) rfl ⟨Nat.le_of_ble_eq_true rfl, Nat.le_of_ble_eq_true rfl⟩ ⟨Nat.zero_le _, Nat.zero_le _⟩ rfl (Nat.le_of_ble_eq_true rfl) dX5_line_103) (fun r35 v36 H locs hI hp34 => ?_)
          rw [show nI jx * nI 3 + nI 3 - nI 1 = nI (3 * jx + 2) from ix3 jx 2, el_lt (by omega) (by decide)] at hp34
          subst hp34
          refine tI (hB.2.2 jx hljx).2.2.2 ?_
          exact rI hQ F (v := (u.1, u.2)) hI dX5_line_106 (by rw [a_line, withL_s hxx, withR_s hxy]; exact ⟨(show (if npK (X.1.2.2 jx).1 < 3 then NON else nI (X.1.2.2 jx).2.2.2) = nI (X.1.2.2 jx).2.2.2 from if_neg (by omega)).symm, hC, SameM.rf _⟩)
        · have h33 : npK (X.1.2.2 jx).1 < 3 := Nat.lt_of_not_le (fun q9 => h33 ((nI_leI (a := 3) (b := npK (X.1.2.2 jx).1) (by omega) (by omega)).mpr q9))
          refine zc F K_X5_81 dX5_line_92 ?_
          refine lv_goto (tgt := 106) hx hy dX5_line_94 (by decide) ?_
          exact rI hQ F (v := (u.1, u.2)) hI dX5_line_106 (by rw [a_line, withL_s hxx, withR_s hxy]; exact ⟨(show (if npK (X.1.2.2 jx).1 < 3 then NON else nI (X.1.2.2 jx).2.2.2) = NON from if_pos (by omega)).symm, hC, SameM.rf _⟩)
      · refine lv_tableIn (tgt := 107) hx hy dX5_line_15 (by decide) (by decide) (by rfl) (by decide) ?_
        refine lv_aload_n hx hy dX5_line_107 rfl (lv_at hl 0 rfl) ?_
        refine lv_iload_n hx hy dX5_line_108 rfl (lv_at hl 1 rfl) ?_
        refine lv_aload_n hx hy dX5_line_109 rfl (lv_at hl 0 rfl) ?_
        refine gX5_bench F hI L_X5_10 dX5_line_110 ?_
        refine gX0_length F hI (b := 0) (by decide) L_X5_97 dX5_line_113 ?_
        refine tI hB.1 ?_
        refine zI hI (xV F hI hl (kX5_onesOver l E (u) hC hX jx (by omega) (X.1.2.1) (by omega)) M_X5_128 (rX5 F hI) rfl ⟨Nat.le_of_ble_eq_true rfl, Nat.le_of_ble_eq_true rfl⟩ ⟨Nat.zero_le _, Nat.zero_le _⟩ rfl (Nat.le_of_ble_eq_true rfl) dX5_line_116) (fun r38 v39 H locs hI hp37 => ?_)
        have hpr := hp37.1
        have hps := hp37.2
        have hsc40 : Scr u.1 v39.1 := (Scr.rf _).tr hps
        have hCs41 := hsc40.rep hC
        have hBhCs41 : RepB 0 v39.1 X.1 := hCs41.1
        refine tI (show _ = nI (cnt X.1.2.2 jx (X.1.2.1)) from hpr) ?_
        exact rI hQ F (v := (v39.1, v39.2)) hI dX5_line_119 (by rw [a_line, withL_s hxx, withR_s hxy]; exact ⟨rfl, hsc40.rep hC, hsc40.m⟩)
      · refine lv_tableIn (tgt := 120) hx hy dX5_line_15 (by decide) (by decide) (by rfl) (by decide) ?_
        refine lv_aload_n hx hy dX5_line_120 rfl (lv_at hl 0 rfl) ?_
        refine lv_iload_n hx hy dX5_line_121 rfl (lv_at hl 1 rfl) ?_
        refine lv_aload_n hx hy dX5_line_122 rfl (lv_at hl 0 rfl) ?_
        refine gX5_bench F hI L_X5_10 dX5_line_123 ?_
        refine gX0_length F hI (b := 0) (by decide) L_X5_97 dX5_line_126 ?_
        refine tI hB.1 ?_
        refine zI hI (xV F hI hl (kX5_onesOver l E (u) hC hX jx (by omega) (X.1.2.1) (by omega)) M_X5_128 (rX5 F hI) rfl ⟨Nat.le_of_ble_eq_true rfl, Nat.le_of_ble_eq_true rfl⟩ ⟨Nat.zero_le _, Nat.zero_le _⟩ rfl (Nat.le_of_ble_eq_true rfl) dX5_line_129) (fun r43 v44 H locs hI hp42 => ?_)
        have hpr := hp42.1
        have hps := hp42.2
        have hsc45 : Scr u.1 v44.1 := (Scr.rf _).tr hps
        have hCs46 := hsc45.rep hC
        have hBhCs46 : RepB 0 v44.1 X.1 := hCs46.1
        refine tI (show _ = nI (cnt X.1.2.2 jx (X.1.2.1)) from hpr) ?_
        refine lv_aload_n hx hy dX5_line_132 rfl (lv_at hl 0 rfl) ?_
        refine gX5_bench F hI L_X5_10 dX5_line_133 ?_
        refine gX0_length F hI (b := 0) (by decide) L_X5_97 dX5_line_136 ?_
        refine tI (show _ = v44.1 1 0 from rfl) ?_
        refine tI hBhCs46.1 ?_
        have hcl := cnt_le X.1.2.2 jx X.1.2.1
        refine zI hI (xS F hI hl (kX5_shareOf l E (v44) (cnt X.1.2.2 jx (X.1.2.1)) (X.1.2.1) (by omega) (by omega) (by omega)) M_X5_131 rfl ⟨Nat.le_of_ble_eq_true rfl, Nat.le_of_ble_eq_true rfl⟩ ⟨Nat.zero_le _, Nat.zero_le _⟩ rfl (Nat.le_of_ble_eq_true rfl) dX5_line_139) (fun r48 v49 H locs hI hp47 => ?_)
        subst hp47
        exact rI hQ F (v := (v44.1, v44.2)) hI dX5_line_142 (by rw [a_line, withL_s hxx, withR_s hxy]; exact ⟨rfl, hsc45.rep hC, hsc45.m⟩)
      · refine lv_tableIn (tgt := 143) hx hy dX5_line_15 (by decide) (by decide) (by rfl) (by decide) ?_
        refine lv_aload_n hx hy dX5_line_143 rfl (lv_at hl 0 rfl) ?_
        refine gX5_figures F hI L_X5_43 dX5_line_144 ?_
        refine lv_aload_n hx hy dX5_line_147 rfl (lv_at hl 0 rfl) ?_
        refine gX5_bench F hI L_X5_10 dX5_line_148 ?_
        refine zV hI (xV F hI hl (kX2_workOut l E (u) (b := 0) (n := X.1.1) (f := X.1.2.2) (by decide) hB.2 hn16 hX.1.2.2.2) M_X5_134 (rX2 F hI) rfl ⟨Nat.le_of_ble_eq_true rfl, Nat.le_of_ble_eq_true rfl⟩ ⟨Nat.zero_le _, Nat.zero_le _⟩ rfl (Nat.le_of_ble_eq_true rfl) dX5_line_151) (fun v52 H locs hI hp50 => ?_)
        have hsc53 : Scr u.1 v52 := (Scr.rf _).tr hp50.2.scr
        have hCs54 := hsc53.rep hC
        have hBhCs54 : RepB 0 v52 X.1 := hCs54.1
        refine lv_aload_n hx hy dX5_line_154 rfl (lv_at hl 0 rfl) ?_
        refine gX5_figures F hI L_X5_43 dX5_line_155 ?_
        refine lv_iload_n hx hy dX5_line_158 rfl (lv_at hl 1 rfl) ?_
        refine zI hI (xV F hI hl (kX2_exactShareOf l E ((v52, u.2)) (nI jx)) M_X5_137 (rX2 F hI) rfl ⟨Nat.le_of_ble_eq_true rfl, Nat.le_of_ble_eq_true rfl⟩ ⟨Nat.zero_le _, Nat.zero_le _⟩ rfl (Nat.le_of_ble_eq_true rfl) dX5_line_159) (fun r56 v57 H locs hI hp55 => ?_)
        rw [el_lt (by omega) (by decide)] at hp55
        subst hp55
        refine tI (show _ = v52 3 jx from rfl) ?_
        refine tI (hp50.1.1 jx (by omega)) ?_
        exact rI hQ F (v := (v52, u.2)) hI dX5_line_162 (by rw [a_line, withL_s hxx, withR_s hxy]; exact ⟨rfl, hsc53.rep hC, hsc53.m⟩)
      · refine lv_tableIn (tgt := 163) hx hy dX5_line_15 (by decide) (by decide) (by rfl) (by decide) ?_
        refine lv_aload_n hx hy dX5_line_163 rfl (lv_at hl 0 rfl) ?_
        refine lv_iload_n hx hy dX5_line_164 rfl (lv_at hl 1 rfl) ?_
        refine lv_aload_n hx hy dX5_line_165 rfl (lv_at hl 0 rfl) ?_
        refine gX5_bench F hI L_X5_10 dX5_line_166 ?_
        refine gX0_length F hI (b := 0) (by decide) L_X5_97 dX5_line_169 ?_
        refine tI hB.1 ?_
        refine zI hI (xV F hI hl (kX5_errorOver l E (u) hC hX jx (by omega) (X.1.2.1) (by omega) (by omega)) M_X5_140 (rX5 F hI) rfl ⟨Nat.le_of_ble_eq_true rfl, Nat.le_of_ble_eq_true rfl⟩ ⟨Nat.zero_le _, Nat.zero_le _⟩ rfl (Nat.le_of_ble_eq_true rfl) dX5_line_172) (fun r59 v60 H locs hI hp58 => ?_)
        have hpr := hp58.1
        have hps := hp58.2
        have hsc61 : Scr u.1 v60.1 := (Scr.rf _).tr hps
        have hCs62 := hsc61.rep hC
        have hBhCs62 : RepB 0 v60.1 X.1 := hCs62.1
        refine tI (show _ = nI (errN X.1.2.2 jx (X.1.2.1)) from hpr) ?_
        exact rI hQ F (v := (v60.1, v60.2)) hI dX5_line_175 (by rw [a_line, withL_s hxx, withR_s hxy]; exact ⟨rfl, hsc61.rep hC, hsc61.m⟩)
      · refine lv_tableIn (tgt := 176) hx hy dX5_line_15 (by decide) (by decide) (by rfl) (by decide) ?_
        refine lv_aload_n hx hy dX5_line_176 rfl (lv_at hl 0 rfl) ?_
        refine gX5_figures F hI L_X5_43 dX5_line_177 ?_
        refine lv_aload_n hx hy dX5_line_180 rfl (lv_at hl 0 rfl) ?_
        refine gX5_bench F hI L_X5_10 dX5_line_181 ?_
        refine zV hI (xV F hI hl (kX2_workOut l E (u) (b := 0) (n := X.1.1) (f := X.1.2.2) (by decide) hB.2 hn16 hX.1.2.2.2) M_X5_134 (rX2 F hI) rfl ⟨Nat.le_of_ble_eq_true rfl, Nat.le_of_ble_eq_true rfl⟩ ⟨Nat.zero_le _, Nat.zero_le _⟩ rfl (Nat.le_of_ble_eq_true rfl) dX5_line_184) (fun v65 H locs hI hp63 => ?_)
        have hsc66 : Scr u.1 v65 := (Scr.rf _).tr hp63.2.scr
        have hCs67 := hsc66.rep hC
        have hBhCs67 : RepB 0 v65 X.1 := hCs67.1
        refine lv_aload_n hx hy dX5_line_187 rfl (lv_at hl 0 rfl) ?_
        refine gX5_figures F hI L_X5_43 dX5_line_188 ?_
        refine lv_iload_n hx hy dX5_line_191 rfl (lv_at hl 1 rfl) ?_
        refine zI hI (xV F hI hl (kX2_depthOf l E ((v65, u.2)) (nI jx)) M_X5_143 (rX2 F hI) rfl ⟨Nat.le_of_ble_eq_true rfl, Nat.le_of_ble_eq_true rfl⟩ ⟨Nat.zero_le _, Nat.zero_le _⟩ rfl (Nat.le_of_ble_eq_true rfl) dX5_line_192) (fun r69 v70 H locs hI hp68 => ?_)
        rw [el_lt (by omega) (by decide)] at hp68
        subst hp68
        refine tI (show _ = v65 4 jx from rfl) ?_
        refine tI (hp63.1.2.1 jx (by omega)) ?_
        exact rI hQ F (v := (v65, u.2)) hI dX5_line_195 (by rw [a_line, withL_s hxx, withR_s hxy]; exact ⟨rfl, hsc66.rep hC, hsc66.m⟩)
      · refine lv_tableIn (tgt := 196) hx hy dX5_line_15 (by decide) (by decide) (by rfl) (by decide) ?_
        refine lv_aload_n hx hy dX5_line_196 rfl (lv_at hl 0 rfl) ?_
        refine gX5_figures F hI L_X5_43 dX5_line_197 ?_
        refine lv_aload_n hx hy dX5_line_200 rfl (lv_at hl 0 rfl) ?_
        refine gX5_bench F hI L_X5_10 dX5_line_201 ?_
        refine zV hI (xV F hI hl (kX2_workOut l E (u) (b := 0) (n := X.1.1) (f := X.1.2.2) (by decide) hB.2 hn16 hX.1.2.2.2) M_X5_134 (rX2 F hI) rfl ⟨Nat.le_of_ble_eq_true rfl, Nat.le_of_ble_eq_true rfl⟩ ⟨Nat.zero_le _, Nat.zero_le _⟩ rfl (Nat.le_of_ble_eq_true rfl) dX5_line_204) (fun v73 H locs hI hp71 => ?_)
        have hsc74 : Scr u.1 v73 := (Scr.rf _).tr hp71.2.scr
        have hCs75 := hsc74.rep hC
        have hBhCs75 : RepB 0 v73 X.1 := hCs75.1
        refine lv_aload_n hx hy dX5_line_207 rfl (lv_at hl 0 rfl) ?_
        refine gX5_figures F hI L_X5_43 dX5_line_208 ?_
        refine lv_iload_n hx hy dX5_line_211 rfl (lv_at hl 1 rfl) ?_
        refine zI hI (xV F hI hl (kX2_sourcesOf l E ((v73, u.2)) (f := X.1.2.2) jx (by omega) (hp71.1.2.2 jx (by omega)) (og_lt hn16 hX.1.2.2.2 jx (by omega))) M_X5_146 (rX2 F hI) rfl ⟨Nat.le_of_ble_eq_true rfl, Nat.le_of_ble_eq_true rfl⟩ ⟨Nat.zero_le _, Nat.zero_le _⟩ rfl (Nat.le_of_ble_eq_true rfl) dX5_line_212) (fun r77 v78 H locs hI hp76 => ?_)
        subst hp76
        exact rI hQ F (v := (v73, u.2)) hI dX5_line_215 (by rw [a_line, withL_s hxx, withR_s hxy]; exact ⟨rfl, hsc74.rep hC, hsc74.m⟩)
set_option maxHeartbeats 400000 in
set_option maxRecDepth 100000 in
theorem kX5_count (l : Launch) (E : EV) (u : SS) {X : XS} (hC : RepC u.1 X) (hX : XOk X) (x : Int32) : CT l yX5_count cX5_count 2 (some .int) (Rm 7 165) [.ref (eA E 0), .int (x)] E u (Q_i E (fun r v => r = (a_count X x).1 ∧ RepC v.1 (a_count X x).2 ∧ SameM u.1 v.1) (fun (v : SS) => v)) := by
  refine mstart RX5 (by decide +kernel) rfl (Nat.le_of_ble_eq_true rfl) ?_
  intro p e s m args below meth co ls Q hQ F hI hl
  have hx := F.1
  have hy := F.2.1
  have hl : lv_has ls 2 [(0, .ref (eA E 0)), (1, .int (x))] := hl
  have hC2 := hC
  obtain ⟨hB, ⟨o, hH⟩, hS, hT⟩ := hC2
  have hn16 := hX.1.1
  have hl1 := hX.1.2.1
  have hl2 := hX.1.2.2.1
  have hh4 := hX.2.1.1
  have ht80 := hT.2.1
  refine lv_iload_n hx hy dX5_count_0 rfl (lv_at hl 1 rfl) ?_
  rcases rgO_cases 0 7 x (by decide) (by decide) with hxx | ⟨jx, hmjx, hljx, rfl, hxx⟩
  · refine lv_tableOut (tgt := 124) hx hy dX5_count_1 (rgO_out (by decide) (by decide) hxx) (by decide) ?_
    refine zc F K_X5_58 dX5_count_124 ?_
    exact rI hQ F (v := (u.1, u.2)) hI dX5_count_126 (by rw [a_count, withR_n hxx]; exact ⟨rfl, hC, SameM.rf _⟩)
  · rcases (show jx = 0 ∨ jx = 1 ∨ jx = 2 ∨ jx = 3 ∨ jx = 4 ∨ jx = 5 ∨ jx = 6 ∨ jx = 7 by omega) with rfl | rfl | rfl | rfl | rfl | rfl | rfl | rfl
    · refine lv_tableIn (tgt := 48) hx hy dX5_count_1 (by decide) (by decide) (by rfl) (by decide) ?_
      refine lv_aload_n hx hy dX5_count_48 rfl (lv_at hl 0 rfl) ?_
      refine gX5_bench F hI L_X5_10 dX5_count_49 ?_
      refine gX0_size F hI (b := 0) (by decide) L_X5_90 dX5_count_52 ?_
      refine tI hB.2.1 ?_
      exact rI hQ F (v := (u.1, u.2)) hI dX5_count_55 (by rw [a_count, withR_s hxx]; exact ⟨rfl, hC, SameM.rf _⟩)
    · refine lv_tableIn (tgt := 56) hx hy dX5_count_1 (by decide) (by decide) (by rfl) (by decide) ?_
      refine lv_aload_n hx hy dX5_count_56 rfl (lv_at hl 0 rfl) ?_
      refine gX5_bench F hI L_X5_10 dX5_count_57 ?_
      refine gX0_length F hI (b := 0) (by decide) L_X5_97 dX5_count_60 ?_
      refine tI hB.1 ?_
      exact rI hQ F (v := (u.1, u.2)) hI dX5_count_63 (by rw [a_count, withR_s hxx]; exact ⟨rfl, hC, SameM.rf _⟩)
    · refine lv_tableIn (tgt := 64) hx hy dX5_count_1 (by decide) (by decide) (by rfl) (by decide) ?_
      refine lv_aload_n hx hy dX5_count_64 rfl (lv_at hl 0 rfl) ?_
      refine gX5_bench F hI L_X5_10 dX5_count_65 ?_
      refine zI hI (xV F hI hl (kX0_sources l E (u) (b := 0) (by decide) (n := X.1.1) (f := X.1.2.2) hB.2 hn16 (fun j hj => (hX.1.2.2.2 j hj).1)) M_X5_177 (rX0 F hI (b := 0) (by decide)) rfl ⟨Nat.le_of_ble_eq_true rfl, Nat.le_of_ble_eq_true rfl⟩ ⟨Nat.zero_le _, Nat.zero_le _⟩ rfl (Nat.le_of_ble_eq_true rfl) dX5_count_68) (fun r2 v3 H locs hI hp1 => ?_)
      subst hp1
      exact rI hQ F (v := (u.1, u.2)) hI dX5_count_71 (by rw [a_count, withR_s hxx]; exact ⟨rfl, hC, SameM.rf _⟩)
    · refine lv_tableIn (tgt := 72) hx hy dX5_count_1 (by decide) (by decide) (by rfl) (by decide) ?_
      refine lv_aload_n hx hy dX5_count_72 rfl (lv_at hl 0 rfl) ?_
      refine zI hI (xV F hI hl (kX5_sumOfErrors l E (u) hC hX) M_X5_181 (rX5 F hI) rfl ⟨Nat.le_of_ble_eq_true rfl, Nat.le_of_ble_eq_true rfl⟩ ⟨Nat.zero_le _, Nat.zero_le _⟩ rfl (Nat.le_of_ble_eq_true rfl) dX5_count_73) (fun r5 v6 H locs hI hp4 => ?_)
      have hpr := hp4.1
      have hps := hp4.2
      have hsc7 : Scr u.1 v6.1 := (Scr.rf _).tr hps
      have hCs8 := hsc7.rep hC
      have hBhCs8 : RepB 0 v6.1 X.1 := hCs8.1
      refine tI (show _ = nI (sumE X.1.2.2 X.1.2.1 X.1.1) from hpr) ?_
      exact rI hQ F (v := (v6.1, v6.2)) hI dX5_count_76 (by rw [a_count, withR_s hxx]; exact ⟨rfl, hsc7.rep hC, hsc7.m⟩)
    · refine lv_tableIn (tgt := 77) hx hy dX5_count_1 (by decide) (by decide) (by rfl) (by decide) ?_
      refine lv_aload_n hx hy dX5_count_77 rfl (lv_at hl 0 rfl) ?_
      refine zI hI (xV F hI hl (kX5_lineWithGreatestError l E (u) hC hX) M_X5_184 (rX5 F hI) rfl ⟨Nat.le_of_ble_eq_true rfl, Nat.le_of_ble_eq_true rfl⟩ ⟨Nat.zero_le _, Nat.zero_le _⟩ rfl (Nat.le_of_ble_eq_true rfl) dX5_count_78) (fun r10 v11 H locs hI hp9 => ?_)
      have hpr := hp9.1
      have hps := hp9.2
      have hsc12 : Scr u.1 v11.1 := (Scr.rf _).tr hps
      have hCs13 := hsc12.rep hC
      have hBhCs13 : RepB 0 v11.1 X.1 := hCs13.1
      refine tI (show _ = wrI (wrst X.1.2.2 X.1.2.1 X.1.1) from hpr) ?_
      exact rI hQ F (v := (v11.1, v11.2)) hI dX5_count_81 (by rw [a_count, withR_s hxx]; exact ⟨rfl, hsc12.rep hC, hsc12.m⟩)
    · refine lv_tableIn (tgt := 82) hx hy dX5_count_1 (by decide) (by decide) (by rfl) (by decide) ?_
      refine lv_aload_n hx hy dX5_count_82 rfl (lv_at hl 0 rfl) ?_
      refine gX5_figures F hI L_X5_43 dX5_count_83 ?_
      refine lv_aload_n hx hy dX5_count_86 rfl (lv_at hl 0 rfl) ?_
      refine gX5_bench F hI L_X5_10 dX5_count_87 ?_
      refine zV hI (xV F hI hl (kX2_workOut l E (u) (b := 0) (n := X.1.1) (f := X.1.2.2) (by decide) hB.2 hn16 hX.1.2.2.2) M_X5_134 (rX2 F hI) rfl ⟨Nat.le_of_ble_eq_true rfl, Nat.le_of_ble_eq_true rfl⟩ ⟨Nat.zero_le _, Nat.zero_le _⟩ rfl (Nat.le_of_ble_eq_true rfl) dX5_count_90) (fun v16 H locs hI hp14 => ?_)
      have hsc17 : Scr u.1 v16 := (Scr.rf _).tr hp14.2.scr
      have hCs18 := hsc17.rep hC
      have hBhCs18 : RepB 0 v16 X.1 := hCs18.1
      refine lv_aload_n hx hy dX5_count_93 rfl (lv_at hl 0 rfl) ?_
      refine gX5_figures F hI L_X5_43 dX5_count_94 ?_
      refine lv_aload_n hx hy dX5_count_97 rfl (lv_at hl 0 rfl) ?_
      refine gX5_bench F hI L_X5_10 dX5_count_98 ?_
      refine gX0_size F hI (b := 0) (by decide) L_X5_90 dX5_count_101 ?_
      refine tI (show _ = v16 2 0 from rfl) ?_
      refine tI hBhCs18.2.1 ?_
      refine zI hI (xV F hI hl (kX2_greatestDepth l E ((v16, u.2)) (f := X.1.2.2) X.1.1 hn16 hp14.1.2.1 (fun a ha => by have := dp_le hX.1.2.2.2 a ha; omega)) M_X5_187 (rX2 F hI) rfl ⟨Nat.le_of_ble_eq_true rfl, Nat.le_of_ble_eq_true rfl⟩ ⟨Nat.zero_le _, Nat.zero_le _⟩ rfl (Nat.le_of_ble_eq_true rfl) dX5_count_104) (fun r20 v21 H locs hI hp19 => ?_)
      subst hp19
      exact rI hQ F (v := (v16, u.2)) hI dX5_count_107 (by rw [a_count, withR_s hxx]; exact ⟨rfl, hsc17.rep hC, hsc17.m⟩)
    · refine lv_tableIn (tgt := 108) hx hy dX5_count_1 (by decide) (by decide) (by rfl) (by decide) ?_
      refine lv_aload_n hx hy dX5_count_108 rfl (lv_at hl 0 rfl) ?_
      refine gX5_history F hI L_X5_29 dX5_count_109 ?_
      refine gX3_size F hI L_X5_118 dX5_count_112 ?_
      refine tI hH.2.2.1 ?_
      exact rI hQ F (v := (u.1, u.2)) hI dX5_count_115 (by rw [a_count, withR_s hxx]; exact ⟨rfl, hC, SameM.rf _⟩)
    · refine lv_tableIn (tgt := 116) hx hy dX5_count_1 (by decide) (by decide) (by rfl) (by decide) ?_
      refine lv_aload_n hx hy dX5_count_116 rfl (lv_at hl 0 rfl) ?_
      refine gX5_text F hI L_X5_36 dX5_count_117 ?_
      refine gX1_size F hI L_X5_113 dX5_count_120 ?_
      refine tI hT.1 ?_
      exact rI hQ F (v := (u.1, u.2)) hI dX5_count_123 (by rw [a_count, withR_s hxx]; exact ⟨rfl, hC, SameM.rf _⟩)
end
section
/-! the property's own mathematics: registers come again, a line and its turned one -/
theorem reg_add (z s : Nat) : ∀ t, reg z (s + t) = reg (reg z s) t
  | 0 => rfl
  | t + 1 => by
    show nr (reg z (s + t)) = nr (reg (reg z s) t)
    rw [reg_add z s t]
theorem reg_255 : ∀ z, z < 256 → 1 ≤ z → reg z 255 = z := by decide +kernel
theorem reg_per {z : Nat} (h1 : 1 ≤ z) (h2 : z ≤ 255) (t : Nat) : reg z (t + 255) = reg z t := by
  rw [Nat.add_comm, reg_add, reg_255 z (by omega) h1]
theorem src_per {f : Nat → Ln} {j : Nat} (hq : LnOk j (f j)) (h : (f j).1 = 0) (t : Nat) : bt f j (t + 255) = bt f j t := by
  rw [bt_0 hq h, bt_0 hq h, reg_per (hq.2.1 h).2.1 (hq.2.1 h).2.2]
theorem unl_src {f : Nat → Ln} {j : Nat} (hq : LnOk j (f j)) (h : (f j).1 = 0) (n : Nat) : unlF f j n = 0 := by
  unfold unlF
  rw [fb_ct_zero]
  intro k _
  rw [src_per hq h]
  simp
/-- a line of the first bench and its first one of the second -/
def Pr (q r : Ln) : Prop := r.1 = q.1 ∧ (q.1 = 0 → r.2.1 = q.2.1 ∧ r.2.2.1 = q.2.2.1) ∧ (q.1 = 1 ∨ q.1 = 2 → r.2.1 = 2 * q.2.1 ∧ r.2.2.1 = 2 * q.2.2.1) ∧ (q.1 = 3 → r.2.1 = 2 * q.2.1 + 1 ∧ r.2.2.1 = 2 * q.2.2.1 + 1) ∧ (q.1 = 4 → r.2.1 = 2 * q.2.2.1 ∧ r.2.2.1 = 2 * q.2.1 ∧ r.2.2.2 = 2 * q.2.2.2 + 1) ∧ (q.1 = 5 → r.2.1 = 2 * q.2.1) ∧ (q.1 = 6 → r.2.1 = 2 * q.2.1 ∧ r.2.2.1 = q.2.2.1)
def Tu (r : Ln) (k : Nat) : Prop := r.1 = 5 ∧ r.2.1 = 2 * k
theorem rel_bits {f g : Nat → Ln} {n : Nat} (hf : ∀ j, j < n → LnOk j (f j)) (hg : ∀ j, j < 2 * n → LnOk j (g j)) (hp : ∀ k, k < n → Pr (f k) (g (2 * k)) ∧ Tu (g (2 * k + 1)) k) : ∀ k, k < n → ∀ t, bt g (2 * k) t = bt f k t ∧ bt g (2 * k + 1) t = !bt f k t := by
  intro k
  induction k using Nat.strongRecOn with
  | ind k ih =>
    intro hk
    have hq := hf k hk
    have hr := hg (2 * k) (by omega)
    have hs := hg (2 * k + 1) (by omega)
    obtain ⟨⟨p0, p1, p2, p3, p4, p5, p6⟩, t1, t2⟩ := hp k hk
    have main : ∀ t, bt g (2 * k) t = bt f k t := by
      intro t
      have i0 : ∀ i, i < k → ∀ t, bt g (2 * i) t = bt f i t := fun i hi t => (ih i hi (by omega) t).1
      have i1 : ∀ i, i < k → ∀ t, bt g (2 * i + 1) t = !bt f i t := fun i hi t => (ih i hi (by omega) t).2
      obtain ⟨h6, q1, q2, q3, q4, q5⟩ := hq
      have hq := hf k hk
      rcases (show (f k).1 = 0 ∨ (f k).1 = 1 ∨ (f k).1 = 2 ∨ (f k).1 = 3 ∨ (f k).1 = 4 ∨ (f k).1 = 5 ∨ (f k).1 = 6 by omega) with e | e | e | e | e | e | e
      · rw [bt_0 hr (p0.trans e), bt_0 hq e, (p1 e).1, (p1 e).2]
      · rw [bt_1 hr (p0.trans e), bt_1 hq e, (p2 (Or.inl e)).1, (p2 (Or.inl e)).2, i0 _ (q2 (by omega)), i0 _ (q3 (by omega) (by omega))]
      · rw [bt_2 hr (p0.trans e), bt_2 hq e, (p2 (Or.inr e)).1, (p2 (Or.inr e)).2, i0 _ (q2 (by omega)), i0 _ (q3 (by omega) (by omega))]
      · rw [bt_3 hr (p0.trans e), bt_3 hq e, (p3 e).1, (p3 e).2, i1 _ (q2 (by omega)), i1 _ (q3 (by omega) (by omega))]
        simp
      · rw [bt_4 hr (p0.trans e), bt_4 hq e, (p4 e).1, (p4 e).2.1, (p4 e).2.2, i0 _ (q2 (by omega)), i0 _ (q3 (by omega) (by omega)), i1 _ (q4 e)]
        cases bt f (f k).2.2.2 t <;> simp
      · rw [bt_5 hr (p0.trans e), bt_5 hq e, p5 e, i0 _ (q2 (by omega))]
      · rw [bt_6 hr (p0.trans e), bt_6 hq e, (p6 e).1, (p6 e).2]
        split
        · rfl
        · rw [i0 _ (q2 (by omega))]
    intro t
    refine ⟨main t, ?_⟩
    rw [bt_5 hs t1, t2, main]
/-- gates by each other -/
theorem gate_turn {f g : Nat → Ln} {n i j k : Nat} (hq : LnOk n (f n)) (hr : LnOk (2 * n) (g (2 * n))) (hi : ∀ t, bt g (2 * i + 1) t = !bt f i t) (hj : ∀ t, bt g (2 * j + 1) t = !bt f j t) (hk : k = 1 ∨ k = 2) (ef : (f n).1 = k ∧ (f n).2.1 = i ∧ (f n).2.2.1 = j) (eg : (g (2 * n)).1 = 3 - k ∧ (g (2 * n)).2.1 = 2 * i + 1 ∧ (g (2 * n)).2.2.1 = 2 * j + 1) (t : Nat) : bt g (2 * n) t = !bt f n t := by
  obtain ⟨e1, e2, e3⟩ := ef
  obtain ⟨d1, d2, d3⟩ := eg
  rcases hk with rfl | rfl
  · rw [bt_2 hr d1, bt_1 hq e1, d2, d3, e2, e3, hi, hj]
    simp
  · rw [bt_1 hr d1, bt_2 hq e1, d2, d3, e2, e3, hi, hj]
    simp
theorem cnt_not {f g : Nat → Ln} {i j : Nat} (h : ∀ t, bt g j t = !bt f i t) (t : Nat) : cnt f i t + cnt g j t = t := by
  have h1 := fb_ct_not (bt f i) t
  have h2 : cnt g j t = fb_ct (fun k => !bt f i k) t := fb_ct_cong fun k _ => h k
  have h3 : cnt f i t = fb_ct (bt f i) t := rfl
  omega
theorem cnt_same {f g : Nat → Ln} {i j : Nat} (h : ∀ t, bt g j t = bt f i t) (t : Nat) : cnt g j t = cnt f i t := fb_ct_cong fun k _ => h k
theorem unl_not {f g : Nat → Ln} {i j : Nat} (h : ∀ t, bt g j t = !bt f i t) (n : Nat) : unlF g j n = unlF f i n := fb_ct_cong fun k _ => by
  rw [h, h]
  cases bt f i (60 + k) <;> cases bt f i (60 + k + 255) <;> rfl
theorem both_self (f : Nat → Ln) (i t : Nat) : both f i i t = cnt f i t := fb_ct_cong fun k _ => by simp
theorem both_not {f : Nat → Ln} {i j : Nat} (h : ∀ t, bt f j t = !bt f i t) (t : Nat) : both f i j t = 0 := by
  unfold both
  rw [fb_ct_zero]
  intro k _
  rw [h]
  simp
theorem both_comm (f : Nat → Ln) (i j t : Nat) : both f i j t = both f j i t := fb_ct_cong fun k _ => Bool.and_comm _ _
theorem both_le (f : Nat → Ln) (i j t : Nat) : both f i j t ≤ cnt f i t := fb_ct_sub fun k _ h => by
  rw [Bool.and_eq_true] at h
  exact h.1
theorem both_ge (f : Nat → Ln) (i j : Nat) : ∀ t, cnt f i t + cnt f j t ≤ both f i j t + t
  | 0 => Nat.le_refl 0
  | t + 1 => by
    have h := both_ge f i j t
    unfold cnt both at h ⊢
    rw [fb_ct_succ, fb_ct_succ, fb_ct_succ]
    cases bt f i t <;> cases bt f j t <;> simp <;> omega
theorem ex_turn {f : Nat → Ln} {j i : Nat} (hq : LnOk j (f j)) (h : (f j).1 = 5) (h2 : (f j).2.1 = i) : ex f j = 65536 - ex f i := by
  rw [ex_eq hq, exS, h, h2]
  simp
/-! depths, sources -/
theorem dp_zero {f : Nat → Ln} {j : Nat} (hq : LnOk j (f j)) : dp f j = 0 ↔ (f j).1 = 0 := by
  rw [dp_eq hq, dpS]
  by_cases h : (f j).1 = 0
  · rw [if_pos h]
    exact ⟨fun _ => h, fun _ => rfl⟩
  · rw [if_neg h]
    refine ⟨fun q => ?_, fun q => absurd q h⟩
    split at q
    · omega
    · split at q <;> omega
theorem mxN_ge {g : Nat → Nat} {i : Nat} : ∀ {n : Nat}, i < n → g i ≤ mxN g n
  | 0, h => absurd h (Nat.not_lt_zero i)
  | n + 1, h => by
    show g i ≤ max (mxN g n) (g n)
    by_cases e : i = n
    · rw [e]
      exact Nat.le_max_right _ _
    · have := mxN_ge (g := g) (show i < n by omega)
      omega
theorem og_src {f : Nat → Ln} {n : Nat} (hf : ∀ j, j < n → LnOk j (f j)) : ∀ j, j < n → og f j ≠ 0 ∧ ∀ t, (og f j).testBit t = true → t ≤ j ∧ (f t).1 = 0 := by
  intro j
  induction j using Nat.strongRecOn with
  | ind j ih =>
    intro hj
    have hq := hf j hj
    rw [og_eq hq, ogS]
    rcases hq.ahead with k | ⟨k1, k2, ha, hb⟩ | ⟨k, ha, hb, hc⟩ | ⟨k, ha⟩ | ⟨k, ha⟩
    · rw [if_pos k]
      refine ⟨Nat.ne_of_gt (Nat.two_pow_pos j), fun t ht => ?_⟩
      rw [Nat.testBit_two_pow] at ht
      have ht := of_decide_eq_true ht
      subst ht
      exact ⟨Nat.le_refl _, k⟩
    · rw [if_neg (by omega), if_pos k2]
      obtain ⟨a1, a2⟩ := ih _ ha (by omega)
      obtain ⟨b1, b2⟩ := ih _ hb (by omega)
      refine ⟨fun e => a1 (Nat.le_zero.mp (e ▸ Nat.left_le_or)), fun t ht => ?_⟩
      rw [Nat.testBit_or, Bool.or_eq_true] at ht
      rcases ht with ht | ht
      · have := a2 t ht
        exact ⟨by omega, this.2⟩
      · have := b2 t ht
        exact ⟨by omega, this.2⟩
    · rw [if_neg (by omega), if_neg (by omega), if_pos k]
      obtain ⟨a1, a2⟩ := ih _ ha (by omega)
      obtain ⟨b1, b2⟩ := ih _ hb (by omega)
      obtain ⟨c1, c2⟩ := ih _ hc (by omega)
      refine ⟨fun e => c1 (Nat.le_zero.mp (e ▸ Nat.right_le_or)), fun t ht => ?_⟩
      rw [Nat.testBit_or, Nat.testBit_or, Bool.or_eq_true, Bool.or_eq_true] at ht
      rcases ht with (ht | ht) | ht
      · have := a2 t ht
        exact ⟨by omega, this.2⟩
      · have := b2 t ht
        exact ⟨by omega, this.2⟩
      · have := c2 t ht
        exact ⟨by omega, this.2⟩
    · rw [if_neg (by omega), if_neg (by omega), if_neg (by omega)]
      obtain ⟨a1, a2⟩ := ih _ ha (by omega)
      exact ⟨a1, fun t ht => ⟨by have := (a2 t ht).1; omega, (a2 t ht).2⟩⟩
    · rw [if_neg (by omega), if_neg (by omega), if_neg (by omega)]
      obtain ⟨a1, a2⟩ := ih _ ha (by omega)
      exact ⟨a1, fun t ht => ⟨by have := (a2 t ht).1; omega, (a2 t ht).2⟩⟩
theorem ct_within {p q : Nat → Bool} {n : Nat} (h : ∀ t, p t = true → t < n ∧ q t = true) : ∀ m, fb_ct p m ≤ fb_ct q (min m n)
  | 0 => Nat.zero_le _
  | m + 1 => by
    have ih := ct_within h m
    rw [fb_ct_succ]
    by_cases e : p m = true
    · have h1 := h m e
      rw [if_pos e, show min (m + 1) n = m + 1 from by omega, fb_ct_succ, if_pos h1.2]
      rw [show min m n = m from by omega] at ih
      omega
    · rw [if_neg e]
      have := fb_ct_mono q (show min m n ≤ min (m + 1) n by omega)
      omega
theorem og_count {f : Nat → Ln} {n j : Nat} (hf : ∀ j, j < n → LnOk j (f j)) (h16 : n ≤ 16) (hj : j < n) : 1 ≤ fb_ct (fun t => (og f j).testBit t) 32 ∧ fb_ct (fun t => (og f j).testBit t) 32 ≤ fb_ct (fun t => decide ((f t).1 = 0)) n := by
  obtain ⟨h1, h2⟩ := og_src hf j hj
  constructor
  · refine fb_ct_pos.mpr ?_
    obtain ⟨t, ht⟩ := Nat.exists_testBit_of_ne_zero h1
    have := h2 t ht
    exact ⟨t, by omega, ht⟩
  · have h3 := ct_within (p := fun t => (og f j).testBit t) (q := fun t => decide ((f t).1 = 0)) (n := n) (fun t ht => by
      have := h2 t ht
      exact ⟨by omega, decide_eq_true this.2⟩) 32
    rw [show min 32 n = n from by omega] at h3
    exact h3
/-! settling, the worst line -/
theorem lastF_self (f : Nat → Ln) (j t : Nat) : lastF f j (errN f j (t + 1)) (t + 1) = lastF f j (errN f j (t + 1)) t := if_neg (by omega)
theorem wr_spec {f : Nat → Ln} {t : Nat} : ∀ n w g, wrst f t n = some (w, g) → w < n ∧ g = errN f w t ∧ (∀ k, k < n → errN f k t ≤ g) ∧ ∀ k, k < w → errN f k t < g
  | 0, w, g, h => by cases h
  | n + 1, w, g, h => by
    rcases hw : wrst f t n with _ | ⟨w1, g1⟩
    · rw [wr_none hw] at h
      cases h
      have h0 : n = 0 := by
        cases n with
        | zero => rfl
        | succ m =>
          exfalso
          unfold wrst at hw
          split at hw
          · cases hw
          · split at hw <;> cases hw
      subst h0
      exact ⟨by omega, rfl, fun k hk => by rw [show k = 0 from by omega]; exact Nat.le_refl _, fun k hk => absurd hk (Nat.not_lt_zero k)⟩
    · obtain ⟨a1, a2, a3, a4⟩ := wr_spec n w1 g1 hw
      by_cases q : g1 < errN f n t
      · rw [wr_gt hw q] at h
        cases h
        refine ⟨by omega, rfl, fun k hk => ?_, fun k hk => ?_⟩
        · by_cases e : k = n
          · rw [e]
            exact Nat.le_refl _
          · have := a3 k (by omega)
            omega
        · have := a3 k hk
          omega
      · rw [wr_le hw q] at h
        cases h
        refine ⟨by omega, a2, fun k hk => ?_, a4⟩
        by_cases e : k = n
        · rw [e]
          omega
        · exact a3 k (by omega)
theorem wr_some (f : Nat → Ln) (t : Nat) : ∀ n, 1 ≤ n → ∃ w g, wrst f t n = some (w, g)
  | 0, h => absurd h (by decide)
  | n + 1, _ => by
    rcases hw : wrst f t n with _ | ⟨w1, g1⟩
    · exact ⟨_, _, wr_none hw⟩
    · by_cases q : g1 < errN f n t
      · exact ⟨_, _, wr_gt hw q⟩
      · exact ⟨_, _, wr_le hw q⟩
end
section
/-! the overlap, in whole numbers -/
theorem am_gm (c e : Nat) : 4 * (c * e) ≤ (c + e) * (c + e) := by
  rcases Nat.le_total c e with h | h
  · obtain ⟨k, rfl⟩ := Nat.le.dest h
    simp only [Nat.mul_add, Nat.add_mul, Nat.mul_comm k c]
    omega
  · obtain ⟨k, rfl⟩ := Nat.le.dest h
    simp only [Nat.mul_add, Nat.add_mul, Nat.mul_comm k e]
    omega
theorem quart_up {b c d t : Nat} (h1 : b ≤ c) (h2 : c ≤ d) (hd : d ≤ t) : 4 * (b * t) ≤ t * t + 4 * (c * d) := by
  obtain ⟨e, rfl⟩ := Nat.le.dest hd
  have a1 := Nat.mul_le_mul h1 (Nat.le_refl (d + e))
  have a2 := am_gm c e
  have a3 := Nat.mul_le_mul (show c + e ≤ d + e by omega) (show c + e ≤ d + e by omega)
  rw [Nat.mul_add c d e] at a1
  omega
theorem quart_dn {b c d t : Nat} (hc : c ≤ t) (hd : d ≤ t) (h : c + d ≤ b + t) : 4 * (c * d) ≤ t * t + 4 * (b * t) := by
  by_cases q : c + d ≤ t
  · have a1 := am_gm c d
    have a2 := Nat.mul_le_mul q q
    omega
  · obtain ⟨m, em⟩ : ∃ m, m = c + d - t := ⟨_, rfl⟩
    obtain ⟨p, ep⟩ : ∃ p, p = t - c := ⟨_, rfl⟩
    obtain ⟨r, er⟩ : ∃ r, r = t - d := ⟨_, rfl⟩
    have e1 : c = m + r := by omega
    have e2 : d = m + p := by omega
    have e3 : t = m + (p + r) := by omega
    have hm : m ≤ b := by omega
    have a1 := Nat.mul_le_mul hm (Nat.le_refl t)
    have a2 := am_gm p r
    have a3 := Nat.mul_le_mul (show p + r ≤ t by omega) (show p + r ≤ t by omega)
    have a4 : c * d = m * t + p * r := by
      rw [e1, e2, e3]
      simp only [Nat.mul_add, Nat.add_mul, Nat.mul_comm r m, Nat.mul_comm r p]
      omega
    omega
theorem bm64 {x : Int} (h1 : -9000000000000000000 ≤ x) (h2 : x ≤ 9000000000000000000) : x.bmod (2 ^ 64) = x := Int.bmod_eq_of_le_mul_two (by omega) (by omega)
theorem bm32 {x : Int} (h1 : -2000000000 ≤ x) (h2 : x ≤ 2000000000) : x.bmod (2 ^ 32) = x := Int.bmod_eq_of_le_mul_two (by omega) (by omega)
theorem tdiv_le {a : Int} {T k : Nat} (hT : 1 ≤ T) (h : a.natAbs ≤ k * T) : (a.tdiv (T : Int)).natAbs ≤ k := by
  rw [Int.natAbs_tdiv]
  show a.natAbs / (T : Int).natAbs ≤ k
  rw [Int.natAbs_natCast]
  exact Nat.div_le_of_le_mul (by rw [Nat.mul_comm]; exact h)
theorem ovl_int {f : Nat → Ln} {i j t : Nat} (h1 : 1 ≤ t) (h2 : t ≤ 1000) : (ovl f i j t).toInt = ((((both f i j t * t : Nat) : Int) - ((cnt f i t * cnt f j t : Nat) : Int)) * 65536).tdiv ((t * t : Nat) : Int) ∧ (ovl f i j t).toInt.natAbs ≤ 16384 := by
  have hb1 := both_le f i j t
  have hb2 : both f i j t ≤ cnt f j t := by
    rw [both_comm]
    exact both_le f j i t
  have hb3 := both_ge f i j t
  have hc := cnt_le f i t
  have hd := cnt_le f j t
  have hT1 : 1 * 1 ≤ t * t := Nat.mul_le_mul h1 h1
  have hT2 : t * t ≤ 1000 * 1000 := Nat.mul_le_mul h2 h2
  have q1 : 4 * (both f i j t * t) ≤ t * t + 4 * (cnt f i t * cnt f j t) := by
    rcases Nat.le_total (cnt f i t) (cnt f j t) with h | h
    · exact quart_up hb1 h hd
    · rw [Nat.mul_comm (cnt f i t)]
      exact quart_up hb2 h hc
  have q2 := quart_dn hc hd hb3
  have hB : both f i j t * t ≤ t * t := Nat.mul_le_mul (Nat.le_trans hb1 hc) (Nat.le_refl t)
  have hC : cnt f i t * cnt f j t ≤ t * t := Nat.mul_le_mul hc hd
  unfold ovl
  generalize both f i j t * t = B at q1 q2 hB ⊢
  generalize cnt f i t * cnt f j t = C at q1 q2 hC ⊢
  generalize t * t = T at q1 q2 hT1 hT2 hB hC ⊢
  have e1 : (lN B - lN C).toInt = (B : Int) - C := by rw [Int64.toInt_sub, lNT (by omega), lNT (by omega), bm64 (by omega) (by omega)]
  have e2 : ((lN B - lN C) * lN 65536).toInt = ((B : Int) - C) * 65536 := by
    rw [Int64.toInt_mul, e1, lNT (by omega)]
    exact bm64 (by omega) (by omega)
  have e3 : (((lN B - lN C) * lN 65536) / lN T).toInt = (((B : Int) - C) * 65536).tdiv T := by
    rw [Int64.toInt_div_of_ne_right _ _ (fun q => by
      have := congrArg Int64.toInt q
      rw [lNT (by omega)] at this
      have e0 : (-1 : Int64).toInt = -1 := rfl
      omega), e2, lNT (by omega)]
  have e4 : ((((B : Int) - C) * 65536).tdiv (T : Int)).natAbs ≤ 16384 := tdiv_le (by omega) (by omega)
  rw [Int64.toInt_toInt32, e3, bm32 (by omega) (by omega)]
  exact ⟨rfl, e4⟩
theorem ovl_comm (f : Nat → Ln) (i j t : Nat) : ovl f i j t = ovl f j i t := by
  unfold ovl
  rw [both_comm, Nat.mul_comm (cnt f i t)]
theorem ovl_bnd {f : Nat → Ln} {i j t : Nat} (h1 : 1 ≤ t) (h2 : t ≤ 1000) : ovl f i j t ≤ nI 16384 ∧ (-16384 : Int32) ≤ ovl f i j t := by
  have h := (ovl_int (f := f) (i := i) (j := j) h1 h2).2
  have e0 : (-16384 : Int32).toInt = -16384 := rfl
  rw [ile, ile, nT (by decide), e0]
  omega
theorem ovl_turn {f g : Nat → Ln} {i a b t : Nat} (h1 : 1 ≤ t) (h2 : t ≤ 1000) (ha : ∀ t, bt g a t = bt f i t) (hb : ∀ t, bt g b t = !bt f i t) : ovl f i i t = - ovl g a b t := by
  have h3 := ovl_int (f := f) (i := i) (j := i) h1 h2
  have h4 := ovl_int (f := g) (i := a) (j := b) h1 h2
  have e1 := both_self f i t
  have e2 : both g a b t = 0 := both_not (fun t => by rw [hb, ha]) t
  have e3 := cnt_same ha t
  have e4 := cnt_not hb t
  have hc := cnt_le f i t
  rw [e1] at h3
  rw [e2, e3] at h4
  apply ext32
  have e6 : (-(ovl g a b t)).toInt = -((ovl g a b t).toInt) := by rw [Int32.toInt_neg, bm32 (by omega) (by omega)]
  rw [e6, h3.1, h4.1, ← Int.neg_tdiv]
  congr 1
  obtain ⟨d, ed⟩ : ∃ d, d = cnt g b t := ⟨_, rfl⟩
  rw [← ed] at e4 ⊢
  have e7 : cnt f i t * t = cnt f i t * cnt f i t + cnt f i t * d := by rw [← Nat.mul_add, e4]
  rw [e7]
  generalize cnt f i t * cnt f i t = P
  generalize cnt f i t * d = S
  omega
end
section
/-! two objects side by side: each its own world, in regions that are apart -/
theorem va_Z.less {C n d : String} {v : Value} {A A' : Nat → Prop} {U : State} {H : Heap} (hA : ∀ q, A' q → A q) (h : va_Z C n d v A U H) : va_Z C n d v A' U H := by
  obtain ⟨cf, kf, fi, f, a, cell, h1, h2, h3, h4, h5, h6, h7, h8⟩ := h
  exact ⟨cf, kf, fi, f, a, cell, h1, h2, h3, h4, h5, h6, h7, fun q => h8 (hA _ q)⟩
theorem va_T.less {ty : FieldType} {t N : Nat} {f : Nat → Value} {A A' : Nat → Prop} {U : State} {H : Heap} (hA : ∀ q, A' q → A q) (h : va_T ty t N f A U H) : va_T ty t N f A' U H := by
  obtain ⟨cell, h1, h2, h3, h4, h5, h6, h7⟩ := h
  exact ⟨cell, h1, h2, h3, h4, h5, h6, fun q => h7 (hA _ q)⟩
/-- E1 and E2 are two objects' environments under E0 -/
def Und (E0 E1 : EV) : Prop := eD E1 = eD E0 ∧ eT E1 = eT E0 ∧ eS E1 = eS E0 ∧ ∀ q, eR E1 q → eR E0 q
def Two (E0 E1 E2 : EV) : Prop := Und E0 E1 ∧ Und E0 E2 ∧ ∀ q, eR E1 q → ¬ eR E2 q
theorem KK.und {E0 E1 : EV} {U : State} (h : KK E0 U) (hT : Und E0 E1) : KK E1 U := by
  obtain ⟨h1, h2, ⟨h3, h4⟩, ⟨h5, h6⟩, -⟩ := h
  obtain ⟨t1, t2, t3, t4⟩ := hT
  unfold KK tysL
  rw [t1, t2, t3]
  exact ⟨h1, h2, ⟨h3.less t4, h4.less t4⟩, ⟨h5.less t4, h6.less t4⟩, trivial⟩
theorem Sw.kept {E1 E2 : EV} {u : SS} {H H1 : Heap} (hD : eD E1 = eD E2) (h : Sw E2 u H) (ha : ∀ q, eR E2 q → ¬ eR E1 q) (hk : ∀ q : Nat, q < H.size → ¬ eR E1 q → H1[q]? = H[q]?) : Sw E2 u H1 :=
  ⟨fun k q hq => (h.1 k q hq).kept (hk q.1 (h.1 k q hq).lt (ha q.1 (h.2.2 k q hq))), h.2⟩
def Iv2 (E0 E1 E2 : EV) (s : State) (H : Heap) (locs : List Loc) (u v : SS) : Prop := (Sw E1 u H ∧ Sw E2 v H) ∧ va_S (eR E0) s.heap H locs
def Pre2 (E0 E1 E2 : EV) (u v : SS) : State → Prop := fun U => Sw E1 u U.heap ∧ Sw E2 v U.heap ∧ KK E0 U
theorem Pre2.blind {E0 E1 E2 : EV} {u v : SS} {av : List Value} : FrameBlind (va_Pc av (Pre2 E0 E1 E2 u v)) := fun a U g mk q => ⟨q.1, q.2.1, q.2.2.1, q.2.2.2.calling⟩
abbrev Q2 (E0 E1 E2 : EV) (post : Int32 → SS × SS → Prop) : Array Value → State → Outcome → State → Prop := va_Qi post (fun w t => Sw E1 w.1 t.heap ∧ Sw E2 w.2 t.heap) (eR E0)
/-- a contract over two objects -/
abbrev CT2 (l : Launch) (y : MethodName) (cc : ByteArray) (maxL : Nat) (ret : Option FieldType) (rm : Room) (av : List Value) (E0 E1 E2 : EV) (u v : SS) (post : Int32 → SS × SS → Prop) : Prop :=
  Met l y (Cond.code y cc maxL ret :: gW) rm (va_Pc av (Pre2 E0 E1 E2 u v)) (Q2 E0 E1 E2 post) 0 0 (eR E0)
theorem mstart2 {l : Launch} {y : MethodName} {cc : ByteArray} {maxL : Nat} {ret : Option FieldType} {f k : Nat} {E0 E1 E2 : EV} {u v : SS} {av : List Value} {post : Int32 → SS × SS → Prop} (own : String) (hy : plainName y.cls = true) (ho : y.cls = own) (hn : (lg_sl av).length ≤ maxL)
    (body : ∀ (p : Program) (e : Env) (s : State) (m : MethodId) (args : Array Value) (below : List Frame) (meth : Method) (co : Code) (ls : Array Slot) (Q : State → Prop), MQ below (Q2 E0 E1 E2 post) args s 0 0 (eR E0) = Q → Fx E0 p s m args meth co cc maxL own ret → Iv2 E0 E1 E2 s s.heap [] u v → lv_has ls maxL (lv_args 0 av) → W p l e (Rm f k) s m args below meth co s.heap [] 0 0 Q (F0 m 0 ls [])) : CT2 l y cc maxL ret (Rm f k) av E0 E1 E2 u v post := by
  refine Met.ofW (cc := cc) (maxL := maxL) (ret := ret) hy rfl ?_
  intro p e s m args below meth c s₁ B hml hv
  obtain ⟨rfl, hS1, hS2, hK⟩ := hv
  have hts := atoms_spec (ws := Cond.code y cc maxL ret :: gW) B.pre
  have hown : s.vm.findClass y.cls = some m.cls := findClass_of_methodNamed B.named
  rw [lg_entry_eq]
  exact body p e s m _ below meth c _ _ rfl ⟨B.exec, B.bytes, hml, ho ▸ hown, fun w hw => hts w (List.mem_cons_of_mem _ hw), hK, B.returns, B.notSynchronized⟩ ⟨⟨hS1, hS2⟩, va_S.rf⟩ (lv_entry av hn)
section W2
variable {p : Program} {l : Launch} {e : Env} {R : Room} {s : State} {m : MethodId} {args : Array Value} {below : List Frame} {meth : Method} {co : Code} {H : Heap} {locs : List Loc} {cells slots : Nat} {Q : State → Prop}
variable {cc : ByteArray} {pc : Nat} {ls : Array Slot} {rest st : List Value} {E0 E1 E2 : EV} {u w : SS} {nL : Nat} {own : String} {ret : Option FieldType}
theorem rZ2 {post : Int32 → SS × SS → Prop} {ty : FieldType} (hQ : MQ below (Q2 E0 E1 E2 post) args s cells slots (eR E0) = Q) (F : Fx E0 p s m args meth co cc nL own (some ty)) {r : Int32} (hn : narrow ty (.int r) = .int r) (hI : Iv2 E0 E1 E2 s H locs u w) (hdg : decode cc pc = .ok (.ireturn, 1)) (hp : post r (u, w)) : W p l e R s m args below meth co H locs cells slots Q (F0 m pc ls [.int r]) := by
  rw [← hQ]
  exact W.zret F.1 F.2.1 F.2.2.2.2.2.2.1 hn (fun t ht _ => ⟨⟨r, (u, w), rfl, hp, by show Sw E1 _ t.heap ∧ Sw E2 _ t.heap; rw [ht]; exact hI.1⟩, hI.2.F ht⟩) hI.2.2.2 hdg F.2.2.2.2.2.2.2
theorem Iv2.kk {U : State} (hI : Iv2 E0 E1 E2 s H locs u w) (F : Fx E0 p s m args meth co cc nL own ret) (hU : U.heap = H) (hW : s.WarmedH U.vm) : KK E0 U := F.2.2.2.2.2.1.step hI.2 hU hW
theorem rX5a (F : Fx E0 p s m args meth co cc nL own ret) (hT : Two E0 E1 E2) (hI : Iv2 E0 E1 E2 s H locs u w) : ∃ cell : Cell, H[eA E1 0]? = some cell ∧ cell.vm.isStatics = false ∧ s.vm.findClass RX5 = some cell.cls := va_recv (F.2.2.2.2.2.1.und hT.1).1 hI.1.1.1 (ci := 5) (q := (RX5, TX5, 8)) rfl (wX5 E1 u)
theorem rX5b (F : Fx E0 p s m args meth co cc nL own ret) (hT : Two E0 E1 E2) (hI : Iv2 E0 E1 E2 s H locs u w) : ∃ cell : Cell, H[eA E2 0]? = some cell ∧ cell.vm.isStatics = false ∧ s.vm.findClass RX5 = some cell.cls := va_recv (F.2.2.2.2.2.1.und hT.2.1).1 hI.1.2.1 (ci := 5) (q := (RX5, TX5, 8)) rfl (wX5 E2 w)
theorem xVa {As : List Value} {b : Nat} {C : String} {y : MethodName} {bytes : ByteArray} {maxL n idx f k : Nat} {ret' : Option FieldType} {Qc : Array Value → State → Outcome → State → Prop} {lv : List (Nat × Value)} (F : Fx E0 p s m args meth co cc nL own ret) (hT : Two E0 E1 E2) (hI : Iv2 E0 E1 E2 s H locs u w) (hl : lv_has ls nL lv) (hM : CT l y bytes maxL ret' (Rm f k) (.ref b :: As) E1 u Qc) (hL : LkV own idx C y bytes maxL ret' n) (hr : ∃ cell : Cell, H[b]? = some cell ∧ cell.vm.isStatics = false ∧ s.vm.findClass C = some cell.cls) (hn : As.length = n) (hR : f + 1 ≤ R.frames ∧ 8 + (maxL + 11) + k ≤ R.locals) (hf : cells ≤ R.cells ∧ slots ≤ R.slots) (hst : st = As.reverse ++ .ref b :: rest) (hW : (rest.map fun v => v.category).sum ≤ 8) (hdg : decode cc pc = .ok (.invokevirtual idx, 3)) :
    va_Run p l e R s m args below meth co H locs cells slots 0 0 (F0 m pc ls st) rest (Qc (Value.ref b :: As).toArray) (eR E1) := by
  obtain ⟨⟨hl1, h2, h3, h4, h5, h6⟩, h7, h8⟩ := hL
  have ht := F.2.2.2.2.1
  have hp : PreV s H C b (va_Pc (.ref b :: As) (Pre E1 u)) As := ⟨Pre.blind, hr, fun U hU hW => ⟨rfl, by rw [hU]; exact hI.1.1, (hI.kk F hU hW).und hT.1⟩⟩
  rcases hl1 with h1 | ⟨host, h1⟩
  · exact va_runV ⟨F.1, F.2.1, F.2.2.1, F.2.2.2.1, ht⟩ hM ⟨callB_of n ht (gW_in h3) rfl rfl rfl (ht _ h2) (ht _ h1) ⟨h4, h5, h6⟩ hR, ht _ h7, ht _ h8⟩ hp rfl hn hl.1 hst (lv_room hW) hdg hf
  · exact va_runVN ⟨F.1, F.2.1, F.2.2.1, F.2.2.2.1, ht⟩ hM ⟨va_cnB n ht (gW_in h3) rfl rfl rfl (F.2.2.2.2.2.1.2.1 _ h1) (ht _ h2) ⟨h4, h5, h6⟩ hR, ht _ h7, ht _ h8⟩ hp rfl hn hl.1 hst (lv_room hW) hdg hf
theorem xVb {As : List Value} {b : Nat} {C : String} {y : MethodName} {bytes : ByteArray} {maxL n idx f k : Nat} {ret' : Option FieldType} {Qc : Array Value → State → Outcome → State → Prop} {lv : List (Nat × Value)} (F : Fx E0 p s m args meth co cc nL own ret) (hT : Two E0 E1 E2) (hI : Iv2 E0 E1 E2 s H locs u w) (hl : lv_has ls nL lv) (hM : CT l y bytes maxL ret' (Rm f k) (.ref b :: As) E2 w Qc) (hL : LkV own idx C y bytes maxL ret' n) (hr : ∃ cell : Cell, H[b]? = some cell ∧ cell.vm.isStatics = false ∧ s.vm.findClass C = some cell.cls) (hn : As.length = n) (hR : f + 1 ≤ R.frames ∧ 8 + (maxL + 11) + k ≤ R.locals) (hf : cells ≤ R.cells ∧ slots ≤ R.slots) (hst : st = As.reverse ++ .ref b :: rest) (hW : (rest.map fun v => v.category).sum ≤ 8) (hdg : decode cc pc = .ok (.invokevirtual idx, 3)) :
    va_Run p l e R s m args below meth co H locs cells slots 0 0 (F0 m pc ls st) rest (Qc (Value.ref b :: As).toArray) (eR E2) := by
  obtain ⟨⟨hl1, h2, h3, h4, h5, h6⟩, h7, h8⟩ := hL
  have ht := F.2.2.2.2.1
  have hp : PreV s H C b (va_Pc (.ref b :: As) (Pre E2 w)) As := ⟨Pre.blind, hr, fun U hU hW => ⟨rfl, by rw [hU]; exact hI.1.2, (hI.kk F hU hW).und hT.2.1⟩⟩
  rcases hl1 with h1 | ⟨host, h1⟩
  · exact va_runV ⟨F.1, F.2.1, F.2.2.1, F.2.2.2.1, ht⟩ hM ⟨callB_of n ht (gW_in h3) rfl rfl rfl (ht _ h2) (ht _ h1) ⟨h4, h5, h6⟩ hR, ht _ h7, ht _ h8⟩ hp rfl hn hl.1 hst (lv_room hW) hdg hf
  · exact va_runVN ⟨F.1, F.2.1, F.2.2.1, F.2.2.2.1, ht⟩ hM ⟨va_cnB n ht (gW_in h3) rfl rfl rfl (F.2.2.2.2.2.1.2.1 _ h1) (ht _ h2) ⟨h4, h5, h6⟩ hR, ht _ h7, ht _ h8⟩ hp rfl hn hl.1 hst (lv_room hW) hdg hf
/-- a static method over the first object alone -/
theorem xSa {As : List Value} {y : MethodName} {bytes : ByteArray} {maxL n idx f k : Nat} {ret' : Option FieldType} {Qc : Array Value → State → Outcome → State → Prop} {lv : List (Nat × Value)} (F : Fx E0 p s m args meth co cc nL own ret) (hT : Two E0 E1 E2) (hI : Iv2 E0 E1 E2 s H locs u w) (hl : lv_has ls nL lv) (hM : CT l y bytes maxL ret' (Rm f k) As E1 u Qc) (hL : LkS own idx y bytes maxL ret' n) (hn : As.length = n) (hR : f + 1 ≤ R.frames ∧ 8 + (maxL + 11) + k ≤ R.locals) (hf : cells ≤ R.cells ∧ slots ≤ R.slots) (hst : st = As.reverse ++ rest) (hW : (rest.map fun v => v.category).sum ≤ 8) (hdg : decode cc pc = .ok (.invokestatic idx, 3)) :
    va_Run p l e R s m args below meth co H locs cells slots 0 0 (F0 m pc ls st) rest (Qc As.toArray) (eR E1) := by
  obtain ⟨⟨hl1, h2, h3, h4, h5, h6⟩, h7⟩ := hL
  have ht := F.2.2.2.2.1
  have hp : PreS s H (va_Pc As (Pre E1 u)) As := ⟨Pre.blind, fun U hU hW => ⟨rfl, by rw [hU]; exact hI.1.1, (hI.kk F hU hW).und hT.1⟩⟩
  rcases hl1 with h1 | ⟨host, h1⟩
  · exact va_runS ⟨F.1, F.2.1, F.2.2.1, F.2.2.2.1, ht⟩ hM ⟨callB_of n ht (gW_in h3) rfl rfl rfl (ht _ h2) (ht _ h1) ⟨h4, h5, h6⟩ hR, ht _ h7⟩ hp rfl hn hl.1 hst (lv_room hW) hdg hf
  · exact va_runSN ⟨F.1, F.2.1, F.2.2.1, F.2.2.2.1, ht⟩ hM ⟨va_cnB n ht (gW_in h3) rfl rfl rfl (F.2.2.2.2.2.1.2.1 _ h1) (ht _ h2) ⟨h4, h5, h6⟩ hR, ht _ h7, trivial⟩ hp rfl hn hl.1 hst (lv_room hW) hdg hf
/-- a static method over both -/
theorem xS2 {As : List Value} {y : MethodName} {bytes : ByteArray} {maxL n idx f k : Nat} {ret' : Option FieldType} {post : Int32 → SS × SS → Prop} {lv : List (Nat × Value)} (F : Fx E0 p s m args meth co cc nL own ret) (hI : Iv2 E0 E1 E2 s H locs u w) (hl : lv_has ls nL lv) (hM : CT2 l y bytes maxL ret' (Rm f k) As E0 E1 E2 u w post) (hL : LkS own idx y bytes maxL ret' n) (hn : As.length = n) (hR : f + 1 ≤ R.frames ∧ 8 + (maxL + 11) + k ≤ R.locals) (hf : cells ≤ R.cells ∧ slots ≤ R.slots) (hst : st = As.reverse ++ rest) (hW : (rest.map fun v => v.category).sum ≤ 8) (hdg : decode cc pc = .ok (.invokestatic idx, 3)) :
    va_Run p l e R s m args below meth co H locs cells slots 0 0 (F0 m pc ls st) rest (Q2 E0 E1 E2 post As.toArray) (eR E0) := by
  obtain ⟨⟨hl1, h2, h3, h4, h5, h6⟩, h7⟩ := hL
  have ht := F.2.2.2.2.1
  have hp : PreS s H (va_Pc As (Pre2 E0 E1 E2 u w)) As := ⟨Pre2.blind, fun U hU hW => ⟨rfl, by rw [hU]; exact hI.1.1, by rw [hU]; exact hI.1.2, hI.kk F hU hW⟩⟩
  rcases hl1 with h1 | ⟨host, h1⟩
  · exact va_runS ⟨F.1, F.2.1, F.2.2.1, F.2.2.2.1, ht⟩ hM ⟨callB_of n ht (gW_in h3) rfl rfl rfl (ht _ h2) (ht _ h1) ⟨h4, h5, h6⟩ hR, ht _ h7⟩ hp rfl hn hl.1 hst (lv_room hW) hdg hf
  · exact va_runSN ⟨F.1, F.2.1, F.2.2.1, F.2.2.2.1, ht⟩ hM ⟨va_cnB n ht (gW_in h3) rfl rfl rfl (F.2.2.2.2.2.1.2.1 _ h1) (ht _ h2) ⟨h4, h5, h6⟩ hR, ht _ h7, trivial⟩ hp rfl hn hl.1 hst (lv_room hW) hdg hf
theorem za {S : Type} {post : Int32 → S → Prop} {emb : S → SS} {a : Array Value} (hT : Two E0 E1 E2) (hI : Iv2 E0 E1 E2 s H locs u w) (hr : va_Run p l e R s m args below meth co H locs cells slots 0 0 (F0 m pc ls st) rest (Q_i E1 post emb a) (eR E1)) (kk : ∀ (r : Int32) (v : S) (H1 : Heap) (locs1 : List Loc), Iv2 E0 E1 E2 s H1 locs1 (emb v) w → post r v → W p l e R s m args below meth co H1 locs1 cells slots Q (F0 m (pc + 3) ls (.int r :: rest))) : W p l e R s m args below meth co H locs cells slots Q (F0 m pc ls st) :=
  va_calli hr hI.2 (fun q _ h => hT.1.2.2.2 q h) (fun q h => hT.1.2.2.2 q h) (fun r v t H1 locs1 ht _ hp hB _ hk hS => kk r v H1 locs1 ⟨⟨by rw [← ht]; exact hB, hI.1.2.kept (hT.1.1.trans hT.2.1.1.symm) (fun q h2 h1 => hT.2.2 q h1 h2) hk⟩, hS⟩ hp)
theorem zb {S : Type} {post : Int32 → S → Prop} {emb : S → SS} {a : Array Value} (hT : Two E0 E1 E2) (hI : Iv2 E0 E1 E2 s H locs u w) (hr : va_Run p l e R s m args below meth co H locs cells slots 0 0 (F0 m pc ls st) rest (Q_i E2 post emb a) (eR E2)) (kk : ∀ (r : Int32) (v : S) (H1 : Heap) (locs1 : List Loc), Iv2 E0 E1 E2 s H1 locs1 u (emb v) → post r v → W p l e R s m args below meth co H1 locs1 cells slots Q (F0 m (pc + 3) ls (.int r :: rest))) : W p l e R s m args below meth co H locs cells slots Q (F0 m pc ls st) :=
  va_calli hr hI.2 (fun q _ h => hT.2.1.2.2.2 q h) (fun q h => hT.2.1.2.2.2 q h) (fun r v t H1 locs1 ht _ hp hB _ hk hS => kk r v H1 locs1 ⟨⟨hI.1.1.kept (hT.2.1.1.trans hT.1.1.symm) (fun q h1 h2 => hT.2.2 q h1 h2) hk, by rw [← ht]; exact hB⟩, hS⟩ hp)
theorem z2 {post : Int32 → SS × SS → Prop} {a : Array Value} (hI : Iv2 E0 E1 E2 s H locs u w) (hr : va_Run p l e R s m args below meth co H locs cells slots 0 0 (F0 m pc ls st) rest (Q2 E0 E1 E2 post a) (eR E0)) (kk : ∀ (r : Int32) (u1 w1 : SS) (H1 : Heap) (locs1 : List Loc), Iv2 E0 E1 E2 s H1 locs1 u1 w1 → post r (u1, w1) → W p l e R s m args below meth co H1 locs1 cells slots Q (F0 m (pc + 3) ls (.int r :: rest))) : W p l e R s m args below meth co H locs cells slots Q (F0 m pc ls st) :=
  va_calli hr hI.2 (fun _ _ h => h) (fun _ h => h) (fun r v t H1 locs1 ht _ hp hB _ _ hS => kk r v.1 v.2 H1 locs1 ⟨⟨by rw [← ht]; exact hB.1, by rw [← ht]; exact hB.2⟩, hS⟩ hp)
end W2
end
section
/-! what the calls answer where the property makes them -/
theorem ixO_in {n j : Nat} (h : j < n) (hn : n < 2 ^ 31) : ixO n (nI j) = some j := by
  unfold ixO
  rw [if_pos ⟨nlt_le (nI_nn (by omega)), (nI_ltI (by omega) hn).mpr h⟩, nI_clamp (by omega)]
theorem ixO_out {n j : Nat} (h : n ≤ j) (hj : j < 2 ^ 31) : ixO n (nI j) = none := ixO_none (fun q => absurd ((nI_ltI hj (by omega)).mp q.2) (by omega))
theorem rgO_in {a b j : Nat} (h1 : a ≤ j) (h2 : j ≤ b) (hb : b < 2 ^ 31) : rgO a b (nI j) = some j := by
  unfold rgO
  rw [if_pos ⟨(nI_leI (by omega) (by omega)).mpr h1, (nI_leI (by omega) hb).mpr h2⟩, nI_clamp (by omega)]
abbrev QP (A : Int32 × XS) (r : Int32) (c d : CF) : Prop := r = A.1 ∧ RepC d A.2 ∧ SameM c d
theorem QP.of {A : Int32 × XS} {r x : Int32} {c d : CF} {Z : XS} (h : QP A r c d) (e : A = (x, Z)) : r = x ∧ RepC d Z := by
  subst e
  exact ⟨h.1, h.2.1⟩
theorem QP.ok {A : Int32 × XS} {r x : Int32} {c d : CF} {Z : XS} (h : QP A r c d) (e : A = (x, Z)) (ok : XOk A.2) : r = x ∧ RepC d Z ∧ XOk Z := by
  subst e
  exact ⟨h.1, h.2.1, ok⟩
section QQ
variable {X : XS} {r : Int32} {c d : CF}
theorem q_line {j k : Nat} (h : QP (a_line X (nI j) (nI k)) r c d) (hX : XOk X) (hj : j < X.1.1) (hk : k ≤ 9) : r = tellN X j k ∧ RepC d X := h.of (by
  have := hX.1.1
  unfold a_line
  rw [withL_s (ixO_in hj (by omega)), withR_s (rgO_in (Nat.zero_le _) hk (by decide))])
theorem u_line {j : Nat} {y : Int32} (h : QP (a_line X (nI j) y) r c d) (hj : X.1.1 ≤ j) (hj2 : j < 2 ^ 31) : r = UNK ∧ RepC d X := h.of (by
  unfold a_line
  rw [withL_n (ixO_out hj hj2)])
theorem q_count {k : Nat} (h : QP (a_count X (nI k)) r c d) (hk : k ≤ 7) : r = cntN X k ∧ RepC d X := h.of (by
  unfold a_count
  rw [withR_s (rgO_in (Nat.zero_le _) hk (by decide))])
theorem q_bit {j t : Nat} (h : QP (a_bit X (nI j) (nI t)) r c d) (hX : XOk X) (hj : j < X.1.1) (ht : t ≤ 999) : r = nI (bN (bt X.1.2.2 j t)) ∧ RepC d X := h.of (by
  have := hX.1.1
  unfold a_bit
  rw [withL_s (ixO_in hj (by omega)), withR_s (rgO_in (Nat.zero_le _) ht (by decide))])
theorem q_overlap {i j : Nat} (h : QP (a_overlap X (nI i) (nI j)) r c d) (hX : XOk X) (hi : i < X.1.1) (hj : j < X.1.1) : r = ovl X.1.2.2 i j X.1.2.1 ∧ RepC d X := h.of (by
  have := hX.1.1
  unfold a_overlap
  rw [withL_s (ixO_in hi (by omega)), withL_s (ixO_in hj (by omega))])
theorem q_errorAt {j t : Nat} (h : QP (a_errorAt X (nI j) (nI t)) r c d) (hX : XOk X) (hj : j < X.1.1) (h1 : 1 ≤ t) (ht : t ≤ 1000) : r = nI (errN X.1.2.2 j t) ∧ RepC d X := h.of (by
  have := hX.1.1
  unfold a_errorAt
  rw [withL_s (ixO_in hj (by omega)), withR_s (rgO_in h1 ht (by decide))])
theorem q_settles {j b : Nat} (h : QP (a_settles X (nI j) (nI b)) r c d) (hX : XOk X) (hj : j < X.1.1) (hb : b ≤ 65536) (hl : lastF X.1.2.2 j b 1000 ≤ 999) : r = nI (lastF X.1.2.2 j b 1000 + 1) ∧ RepC d X := h.of (by
  have := hX.1.1
  unfold a_settles
  rw [withL_s (ixO_in hj (by omega)), withR_s (rgO_in (Nat.zero_le _) hb (by decide)), if_neg (by omega)])
theorem q_unlike {j : Nat} (h : QP (a_unlike X (nI j)) r c d) (hX : XOk X) (hj : j < X.1.1) : r = nI (unlF X.1.2.2 j 195) ∧ RepC d X := h.of (by
  have := hX.1.1
  unfold a_unlike
  rw [withL_s (ixO_in hj (by omega))])
/-! acts -/
def addS (X : XS) (q : Ln) : XS := actd X (X.1.1 + 1, X.1.2.1, fun j => if j = X.1.1 then q else X.1.2.2 j)
def dropS (X : XS) : XS := actd X (X.1.1 - 1, X.1.2)
def seedS (X : XS) (i a b : Nat) : XS := actd X (X.1.1, X.1.2.1, setL X.1.2.2 i (0, a, b, (X.1.2.2 i).2.2.2))
def lenS (X : XS) (n : Nat) : XS := actd X (X.1.1, n, X.1.2.2)
theorem addL_in (q : Ln) (h : X.1.1 < 16) : addL X q = (nI X.1.1, addS X q) := by
  unfold addL addS
  rw [if_neg (by omega)]
theorem t_source {m a b : Nat} (h : QP (a_source X (nI a) (nI b)) r c d) (hX : XOk X) (hm : X.1.1 = m) (h16 : m < 16) (ha : a ≤ 256) (hb1 : 1 ≤ b) (hb : b ≤ 255) : r = nI m ∧ RepC d (addS X (0, a, b, 0)) ∧ XOk (addS X (0, a, b, 0)) := h.ok (by
  unfold a_source
  rw [withR_s (rgO_in (Nat.zero_le _) ha (by decide)), withR_s (rgO_in hb1 hb (by decide)), addL_in _ (by omega), hm]) (ok_source hX _ _)
theorem t_gate {m k i j : Nat} (h : QP (a_gate X (nI k) (nI i) (nI j)) r c d) (hX : XOk X) (hm : X.1.1 = m) (h16 : m < 16) (hk1 : 1 ≤ k) (hk : k ≤ 3) (hi : i < m) (hj : j < m) : r = nI m ∧ RepC d (addS X (k, i, j, 0)) ∧ XOk (addS X (k, i, j, 0)) := h.ok (by
  unfold a_gate
  rw [withL_s (ixO_in (by omega) (by omega)), withL_s (ixO_in (by omega) (by omega)), withR_s (rgO_in hk1 hk (by decide)), addL_in _ (by omega), hm]) (ok_gate hX _ _ _)
theorem u_gate {i j : Nat} {k : Int32} (h : QP (a_gate X k (nI i) (nI j)) r c d) (hX : XOk X) (hi : i ≤ X.1.1) (hj : j ≤ X.1.1) (he : i = X.1.1 ∨ j = X.1.1) : r = UNK ∧ RepC d X := h.of (by
  have := hX.1.1
  unfold a_gate
  by_cases e : i = X.1.1
  · rw [withL_n (ixO_out (by omega) (by omega))]
  · rw [withL_s (ixO_in (by omega) (by omega)), withL_n (ixO_out (by omega) (by omega))])
theorem t_choose {m i j k : Nat} (h : QP (a_choose X (nI i) (nI j) (nI k)) r c d) (hX : XOk X) (hm : X.1.1 = m) (h16 : m < 16) (hi : i < m) (hj : j < m) (hk : k < m) : r = nI m ∧ RepC d (addS X (4, i, j, k)) ∧ XOk (addS X (4, i, j, k)) := h.ok (by
  unfold a_choose
  rw [withL_s (ixO_in (by omega) (by omega)), withL_s (ixO_in (by omega) (by omega)), withL_s (ixO_in (by omega) (by omega)), addL_in _ (by omega), hm]) (ok_choose hX _ _ _)
theorem u_choose {i j k : Nat} (h : QP (a_choose X (nI i) (nI j) (nI k)) r c d) (hX : XOk X) (hi : i ≤ X.1.1) (hj : j ≤ X.1.1) (hk : k ≤ X.1.1) (he : i = X.1.1 ∨ j = X.1.1 ∨ k = X.1.1) : r = UNK ∧ RepC d X := h.of (by
  have := hX.1.1
  unfold a_choose
  by_cases e : i = X.1.1
  · rw [withL_n (ixO_out (by omega) (by omega))]
  · by_cases e2 : j = X.1.1
    · rw [withL_s (ixO_in (by omega) (by omega)), withL_n (ixO_out (by omega) (by omega))]
    · rw [withL_s (ixO_in (by omega) (by omega)), withL_s (ixO_in (by omega) (by omega)), withL_n (ixO_out (by omega) (by omega))])
theorem t_turn {m i : Nat} (h : QP (a_turn X (nI i)) r c d) (hX : XOk X) (hm : X.1.1 = m) (h16 : m < 16) (hi : i < m) : r = nI m ∧ RepC d (addS X (5, i, 0, 0)) ∧ XOk (addS X (5, i, 0, 0)) := h.ok (by
  unfold a_turn
  rw [withL_s (ixO_in (by omega) (by omega)), addL_in _ (by omega), hm]) (ok_turn hX _)
theorem u_turn {i : Nat} (h : QP (a_turn X (nI i)) r c d) (hX : XOk X) (he : i = X.1.1) : r = UNK ∧ RepC d X := h.of (by
  have := hX.1.1
  unfold a_turn
  rw [withL_n (ixO_out (by omega) (by omega))])
theorem t_delay {m i k : Nat} (h : QP (a_delay X (nI i) (nI k)) r c d) (hX : XOk X) (hm : X.1.1 = m) (h16 : m < 16) (hi : i < m) (hk1 : 1 ≤ k) (hk : k ≤ 60) : r = nI m ∧ RepC d (addS X (6, i, k, 0)) ∧ XOk (addS X (6, i, k, 0)) := h.ok (by
  unfold a_delay
  rw [withL_s (ixO_in (by omega) (by omega)), withR_s (rgO_in hk1 hk (by decide)), addL_in _ (by omega), hm]) (ok_delay hX _ _)
theorem u_delay {i : Nat} {y : Int32} (h : QP (a_delay X (nI i) y) r c d) (hX : XOk X) (he : i = X.1.1) : r = UNK ∧ RepC d X := h.of (by
  have := hX.1.1
  unfold a_delay
  rw [withL_n (ixO_out (by omega) (by omega))])
theorem t_removeLast {m : Nat} (h : QP (a_removeLast X) r c d) (hX : XOk X) (hm : X.1.1 = m + 1) : r = nI m ∧ RepC d (dropS X) ∧ XOk (dropS X) := h.ok (by
  unfold a_removeLast dropS
  rw [if_neg (by omega), show X.1.1 - 1 = m from by omega]) (ok_removeLast hX)
theorem u_reseed {i : Nat} {y w : Int32} (h : QP (a_reseed X (nI i) y w) r c d) (hX : XOk X) (he : i = X.1.1) : r = UNK ∧ RepC d X := h.of (by
  have := hX.1.1
  unfold a_reseed
  rw [withL_n (ixO_out (by omega) (by omega))])
theorem t_reseed_np {i a b : Nat} (h : QP (a_reseed X (nI i) (nI a) (nI b)) r c d) (hX : XOk X) (hi : i < X.1.1) (ha : a ≤ 256) (hb1 : 1 ≤ b) (hb : b ≤ 255) (hk : (X.1.2.2 i).1 ≠ 0) : r = NPO ∧ RepC d X := h.of (by
  have := hX.1.1
  unfold a_reseed
  rw [withL_s (ixO_in hi (by omega)), withR_s (rgO_in (Nat.zero_le _) ha (by decide)), withR_s (rgO_in hb1 hb (by decide)), if_pos hk])
theorem t_reseed_no {i a b : Nat} (h : QP (a_reseed X (nI i) (nI a) (nI b)) r c d) (hX : XOk X) (hi : i < X.1.1) (ha : a ≤ 256) (hb1 : 1 ≤ b) (hb : b ≤ 255) (hk : (X.1.2.2 i).1 = 0) (he : (X.1.2.2 i).2.1 = a ∧ (X.1.2.2 i).2.2.1 = b) : r = NON ∧ RepC d X := h.of (by
  have := hX.1.1
  unfold a_reseed
  rw [withL_s (ixO_in hi (by omega)), withR_s (rgO_in (Nat.zero_le _) ha (by decide)), withR_s (rgO_in hb1 hb (by decide)), if_neg (fun q => q hk), if_pos he])
theorem t_reseed {i a b : Nat} (h : QP (a_reseed X (nI i) (nI a) (nI b)) r c d) (hX : XOk X) (hi : i < X.1.1) (ha : a ≤ 256) (hb1 : 1 ≤ b) (hb : b ≤ 255) (hk : (X.1.2.2 i).1 = 0) (he : ¬ ((X.1.2.2 i).2.1 = a ∧ (X.1.2.2 i).2.2.1 = b)) : r = nI (X.1.2.2 i).2.1 ∧ RepC d (seedS X i a b) ∧ XOk (seedS X i a b) := h.ok (by
  have := hX.1.1
  unfold a_reseed seedS
  rw [withL_s (ixO_in hi (by omega)), withR_s (rgO_in (Nat.zero_le _) ha (by decide)), withR_s (rgO_in hb1 hb (by decide)), if_neg (fun q => q hk), if_neg he]) (ok_reseed hX _ _ _)
theorem t_setLength_no {n : Nat} (h : QP (a_setLength X (nI n)) r c d) (h1 : 1 ≤ n) (hn : n ≤ 1000) (he : X.1.2.1 = n) : r = NON ∧ RepC d X := h.of (by
  unfold a_setLength
  rw [withR_s (rgO_in h1 hn (by decide)), if_pos he])
theorem t_setLength {n : Nat} (h : QP (a_setLength X (nI n)) r c d) (hX : XOk X) (h1 : 1 ≤ n) (hn : n ≤ 1000) (he : X.1.2.1 ≠ n) : r = nI X.1.2.1 ∧ RepC d (lenS X n) ∧ XOk (lenS X n) := h.ok (by
  unfold a_setLength lenS
  rw [withR_s (rgO_in h1 hn (by decide)), if_neg he]) (ok_setLength hX _)
end QQ
/-! the two benches go together -/
def Rl (X Y : XS) : Prop := XOk X ∧ XOk Y ∧ X.1.1 ≤ 8 ∧ Y.1.1 = 2 * X.1.1 ∧ Y.1.2.1 = X.1.2.1 ∧ ∀ k, k < X.1.1 → Pr (X.1.2.2 k) (Y.1.2.2 (2 * k)) ∧ Tu (Y.1.2.2 (2 * k + 1)) k
theorem addS_at (X : XS) (q : Ln) (k : Nat) : (addS X q).1.2.2 k = if k = X.1.1 then q else X.1.2.2 k := rfl
theorem addS_n (X : XS) (q : Ln) : (addS X q).1.1 = X.1.1 + 1 := rfl
theorem addS_len (X : XS) (q : Ln) : (addS X q).1.2.1 = X.1.2.1 := rfl
theorem dropS_n (X : XS) : (dropS X).1.1 = X.1.1 - 1 := rfl
theorem Rl.add {X Y : XS} {q r t : Ln} (h : Rl X Y) (h8 : X.1.1 < 8) (hp : Pr q r) (ht : Tu t X.1.1) (hX : XOk (addS X q)) (hY : XOk (addS (addS Y r) t)) : Rl (addS X q) (addS (addS Y r) t) := by
  obtain ⟨-, -, h3, h4, h5, h6⟩ := h
  refine ⟨hX, hY, by rw [addS_n]; omega, by rw [addS_n, addS_n, addS_n]; omega, by rw [addS_len, addS_len, addS_len]; exact h5, fun k hk => ?_⟩
  rw [addS_n] at hk
  rw [addS_at, addS_at, addS_at, addS_at, addS_at, addS_n]
  by_cases e : k = X.1.1
  · rw [if_pos e, if_neg (by omega), if_pos (by omega), if_pos (by omega), e]
    exact ⟨hp, ht⟩
  · rw [if_neg e, if_neg (by omega), if_neg (by omega), if_neg (by omega), if_neg (by omega)]
    exact h6 k (by omega)
theorem Rl.drop {X Y : XS} (h : Rl X Y) (h1 : 1 ≤ X.1.1) (hX : XOk (dropS X)) (hY : XOk (dropS (dropS Y))) : Rl (dropS X) (dropS (dropS Y)) := by
  obtain ⟨-, -, h3, h4, h5, h6⟩ := h
  refine ⟨hX, hY, by rw [dropS_n]; omega, by rw [dropS_n, dropS_n, dropS_n]; omega, h5, fun k hk => ?_⟩
  rw [dropS_n] at hk
  exact h6 k (by omega)
/-- two lines added to the second bench and removed again -/
theorem Rl.back {X Y : XS} {r t : Ln} (h : Rl X Y) (hY : XOk (dropS (dropS (addS (addS Y r) t)))) : Rl X (dropS (dropS (addS (addS Y r) t))) := by
  obtain ⟨h1, -, h3, h4, h5, h6⟩ := h
  refine ⟨h1, hY, h3, by rw [dropS_n, dropS_n, addS_n, addS_n]; omega, h5, fun k hk => ?_⟩
  have e : ∀ i, (dropS (dropS (addS (addS Y r) t))).1.2.2 i = (addS (addS Y r) t).1.2.2 i := fun _ => rfl
  rw [e, e, addS_at, addS_at, addS_at, addS_at, addS_n, if_neg (by omega), if_neg (by omega), if_neg (by omega), if_neg (by omega)]
  exact h6 k hk
theorem Rl.len {X Y : XS} {n : Nat} (h : Rl X Y) (hX : XOk (lenS X n)) (hY : XOk (lenS Y n)) : Rl (lenS X n) (lenS Y n) := by
  obtain ⟨-, -, h3, h4, h5, h6⟩ := h
  exact ⟨hX, hY, h3, h4, rfl, h6⟩
theorem Rl.seed {X Y : XS} {i a b : Nat} (h : Rl X Y) (hi : i < X.1.1) (hk : (X.1.2.2 i).1 = 0) (hX : XOk (seedS X i a b)) (hY : XOk (seedS Y (2 * i) a b)) : Rl (seedS X i a b) (seedS Y (2 * i) a b) := by
  obtain ⟨-, -, h3, h4, h5, h6⟩ := h
  refine ⟨hX, hY, h3, h4, h5, fun k hk2 => ?_⟩
  have e1 : ∀ j, (seedS X i a b).1.2.2 j = if j = i then (0, a, b, (X.1.2.2 i).2.2.2) else X.1.2.2 j := fun _ => rfl
  have e2 : ∀ j, (seedS Y (2 * i) a b).1.2.2 j = if j = 2 * i then (0, a, b, (Y.1.2.2 (2 * i)).2.2.2) else Y.1.2.2 j := fun _ => rfl
  have hk3 : k < X.1.1 := hk2
  have h7 := h6 k hk3
  rw [e1, e2, e2, if_neg (show ¬ 2 * k + 1 = 2 * i by omega)]
  by_cases e : k = i
  · rw [if_pos e, if_pos (by omega)]
    refine ⟨?_, h7.2⟩
    unfold Pr
    refine ⟨rfl, fun _ => ⟨rfl, rfl⟩, fun q => ?_, fun q => ?_, fun q => ?_, fun q => ?_, fun q => ?_⟩ <;> simp at q
  · rw [if_neg e, if_neg (by omega)]
    exact h7
theorem Rl.bits {X Y : XS} (h : Rl X Y) {k : Nat} (hk : k < X.1.1) : (∀ t, bt Y.1.2.2 (2 * k) t = bt X.1.2.2 k t) ∧ ∀ t, bt Y.1.2.2 (2 * k + 1) t = !bt X.1.2.2 k t := by
  have h9 := rel_bits (n := X.1.1) h.1.1.2.2.2 (fun j hj => h.2.1.1.2.2.2 j (by rw [h.2.2.2.1]; exact hj)) h.2.2.2.2.2 k hk
  exact ⟨fun t => (h9 t).1, fun t => (h9 t).2⟩
/-- what isTurned asks -/
theorem Rl.turned {X Y : XS} (h : Rl X Y) {k : Nat} (hk : k < X.1.1) : cnt Y.1.2.2 (2 * k) Y.1.2.1 = cnt X.1.2.2 k X.1.2.1 ∧ cnt Y.1.2.2 (2 * k + 1) Y.1.2.1 = X.1.2.1 - cnt X.1.2.2 k X.1.2.1 ∧ ex Y.1.2.2 (2 * k + 1) = 65536 - ex Y.1.2.2 (2 * k) ∧ unlF Y.1.2.2 (2 * k + 1) 195 = unlF X.1.2.2 k 195 ∧ ovl X.1.2.2 k k X.1.2.1 = - ovl Y.1.2.2 (2 * k) (2 * k + 1) Y.1.2.1 := by
  obtain ⟨b1, b2⟩ := h.bits hk
  have hl1 := h.1.1.2.1
  have hl2 := h.1.1.2.2.1
  have e := h.2.2.2.2.1
  have ht := (h.2.2.2.2.2 k hk).2
  rw [e]
  refine ⟨cnt_same b1 _, ?_, ex_turn (h.2.1.1.2.2.2 _ (by rw [h.2.2.2.1]; omega)) ht.1 ht.2, unl_not b2 _, ovl_turn hl1 hl2 b1 b2⟩
  have := cnt_not b2 X.1.2.1
  omega
/-- what a gate and the turned one of its turned lines' opposite gate ask -/
theorem Rl.gate {X Y : XS} {i j k : Nat} (h : Rl X Y) (h8 : X.1.1 < 8) (hk : k = 1 ∨ k = 2) (hi : i < X.1.1) (hj : j < X.1.1) (hX : XOk (addS X (k, i, j, 0))) (hY : XOk (addS (addS Y (3 - k, 2 * i + 1, 2 * j + 1, 0)) (5, 2 * X.1.1, 0, 0))) : (∀ t, bt (addS (addS Y (3 - k, 2 * i + 1, 2 * j + 1, 0)) (5, 2 * X.1.1, 0, 0)).1.2.2 (2 * X.1.1) t = !bt (addS X (k, i, j, 0)).1.2.2 X.1.1 t) ∧ ∀ t, bt (addS (addS Y (3 - k, 2 * i + 1, 2 * j + 1, 0)) (5, 2 * X.1.1, 0, 0)).1.2.2 (2 * X.1.1 + 1) t = bt (addS X (k, i, j, 0)).1.2.2 X.1.1 t := by
  have hn := h.2.2.2.1
  obtain ⟨Z, eZ⟩ : ∃ Z, Z = addS (addS Y (3 - k, 2 * i + 1, 2 * j + 1, 0)) (5, 2 * X.1.1, 0, 0) := ⟨_, rfl⟩
  obtain ⟨V, eV⟩ : ∃ V, V = addS X (k, i, j, 0) := ⟨_, rfl⟩
  have zat : ∀ a, Z.1.2.2 a = if a = Y.1.1 + 1 then (5, 2 * X.1.1, 0, 0) else if a = Y.1.1 then (3 - k, 2 * i + 1, 2 * j + 1, 0) else Y.1.2.2 a := fun a => by rw [eZ]; rfl
  have vat : ∀ a, V.1.2.2 a = if a = X.1.1 then (k, i, j, 0) else X.1.2.2 a := fun a => by rw [eV]; rfl
  have zn : Z.1.1 = Y.1.1 + 1 + 1 := by rw [eZ]; rfl
  have vn : V.1.1 = X.1.1 + 1 := by rw [eV]; rfl
  rw [← eZ, ← eV]
  rw [← eZ] at hY
  rw [← eV] at hX
  have low : ∀ a, a < X.1.1 → ∀ t, bt Z.1.2.2 (2 * a + 1) t = !bt V.1.2.2 a t := fun a ha t => by
    have e1 : bt Z.1.2.2 (2 * a + 1) t = bt Y.1.2.2 (2 * a + 1) t := bt_cong (fun b hb => by rw [zat, if_neg (by omega), if_neg (by omega)]) t
    have e2 : bt V.1.2.2 a t = bt X.1.2.2 a t := bt_cong (fun b hb => by rw [vat, if_neg (by omega)]) t
    rw [e1, e2]
    exact (h.bits ha).2 t
  have hv : V.1.2.2 X.1.1 = (k, i, j, 0) := by rw [vat, if_pos rfl]
  have hz : Z.1.2.2 (2 * X.1.1) = (3 - k, 2 * i + 1, 2 * j + 1, 0) := by rw [zat, if_neg (by omega), if_pos (by omega)]
  have hw : Z.1.2.2 (2 * X.1.1 + 1) = (5, 2 * X.1.1, 0, 0) := by rw [zat, if_pos (by omega)]
  have main : ∀ t, bt Z.1.2.2 (2 * X.1.1) t = !bt V.1.2.2 X.1.1 t := fun t =>
    gate_turn (hX.1.2.2.2 _ (by omega)) (hY.1.2.2.2 _ (by omega)) (low i hi) (low j hj) hk (by rw [hv]; exact ⟨rfl, rfl, rfl⟩) (by rw [hz]; exact ⟨rfl, rfl, rfl⟩) t
  refine ⟨main, fun t => ?_⟩
  rw [bt_5 (hY.1.2.2.2 _ (by omega)) (by rw [hw]), show (Z.1.2.2 (2 * X.1.1 + 1)).2.1 = 2 * X.1.1 from by rw [hw], main]
  simp
end
