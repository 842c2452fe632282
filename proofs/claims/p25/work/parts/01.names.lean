-- ===== PART A: goes FIRST, ahead of the names: the tables' words, and 'selects' of the private methods out of them =====
/-- a private method of a class that the tables say can be made, by its rows of tables_1 -/
def lw_okq (q : MethodName × Nat) : Prop := (q.1.cls ≠ "java/lang/invoke/MethodHandle" ∧ q.1.cls ≠ "java/lang/invoke/VarHandle") ∧ Cond.instantiable q.1.cls q.2 ∈ tables_1 ∧ Cond.privateMethod q.1 ∈ tables_1 ∧ Cond.instanceMethod q.1 ∈ tables_1
theorem lw_p0 : lw_okq (⟨"ShareStreams$Bench", "sources", "()I"⟩, 4) := ⟨⟨by decide +kernel, by decide +kernel⟩, List.mem_of_getElem? (i := 19) (by decide +kernel), List.mem_of_getElem? (i := 138) (by decide +kernel), List.mem_of_getElem? (i := 139) (by decide +kernel)⟩
theorem lw_p1 : lw_okq (⟨"ShareStreams$Bench", "kindOf", "(I)I"⟩, 4) := ⟨⟨by decide +kernel, by decide +kernel⟩, List.mem_of_getElem? (i := 19) (by decide +kernel), List.mem_of_getElem? (i := 142) (by decide +kernel), List.mem_of_getElem? (i := 143) (by decide +kernel)⟩
theorem lw_p2 : lw_okq (⟨"ShareStreams", "sumOfErrors", "()I"⟩, 8) := ⟨⟨by decide +kernel, by decide +kernel⟩, List.mem_of_getElem? (i := 11) (by decide +kernel), List.mem_of_getElem? (i := 149) (by decide +kernel), List.mem_of_getElem? (i := 150) (by decide +kernel)⟩
theorem lw_p3 : lw_okq (⟨"ShareStreams", "fillAll", "()V"⟩, 8) := ⟨⟨by decide +kernel, by decide +kernel⟩, List.mem_of_getElem? (i := 11) (by decide +kernel), List.mem_of_getElem? (i := 153) (by decide +kernel), List.mem_of_getElem? (i := 154) (by decide +kernel)⟩
theorem lw_p4 : lw_okq (⟨"ShareStreams$Figures", "workOut", "(LShareStreams$Bench;)V"⟩, 3) := ⟨⟨by decide +kernel, by decide +kernel⟩, List.mem_of_getElem? (i := 80) (by decide +kernel), List.mem_of_getElem? (i := 157) (by decide +kernel), List.mem_of_getElem? (i := 158) (by decide +kernel)⟩
theorem lw_p5 : lw_okq (⟨"ShareStreams$Figures", "exactShareIn", "(LShareStreams$Bench;I)I"⟩, 3) := ⟨⟨by decide +kernel, by decide +kernel⟩, List.mem_of_getElem? (i := 80) (by decide +kernel), List.mem_of_getElem? (i := 161) (by decide +kernel), List.mem_of_getElem? (i := 162) (by decide +kernel)⟩
theorem lw_p6 : lw_okq (⟨"ShareStreams$Bench", "numberOf", "(II)I"⟩, 4) := ⟨⟨by decide +kernel, by decide +kernel⟩, List.mem_of_getElem? (i := 19) (by decide +kernel), List.mem_of_getElem? (i := 165) (by decide +kernel), List.mem_of_getElem? (i := 166) (by decide +kernel)⟩
theorem lw_p7 : lw_okq (⟨"ShareStreams$Figures", "exactShareOf", "(I)I"⟩, 3) := ⟨⟨by decide +kernel, by decide +kernel⟩, List.mem_of_getElem? (i := 80) (by decide +kernel), List.mem_of_getElem? (i := 169) (by decide +kernel), List.mem_of_getElem? (i := 170) (by decide +kernel)⟩
theorem lw_p8 : lw_okq (⟨"ShareStreams$Figures", "depthIn", "(LShareStreams$Bench;I)I"⟩, 3) := ⟨⟨by decide +kernel, by decide +kernel⟩, List.mem_of_getElem? (i := 80) (by decide +kernel), List.mem_of_getElem? (i := 186) (by decide +kernel), List.mem_of_getElem? (i := 187) (by decide +kernel)⟩
theorem lw_p9 : lw_okq (⟨"ShareStreams$Figures", "depthOf", "(I)I"⟩, 3) := ⟨⟨by decide +kernel, by decide +kernel⟩, List.mem_of_getElem? (i := 80) (by decide +kernel), List.mem_of_getElem? (i := 196) (by decide +kernel), List.mem_of_getElem? (i := 197) (by decide +kernel)⟩
theorem lw_p10 : lw_okq (⟨"ShareStreams$Figures", "originsIn", "(LShareStreams$Bench;I)I"⟩, 3) := ⟨⟨by decide +kernel, by decide +kernel⟩, List.mem_of_getElem? (i := 80) (by decide +kernel), List.mem_of_getElem? (i := 203) (by decide +kernel), List.mem_of_getElem? (i := 204) (by decide +kernel)⟩
theorem lw_p11 : lw_okq (⟨"ShareStreams$Streams", "fill", "(LShareStreams$Bench;II)V"⟩, 1) := ⟨⟨by decide +kernel, by decide +kernel⟩, List.mem_of_getElem? (i := 96) (by decide +kernel), List.mem_of_getElem? (i := 207) (by decide +kernel), List.mem_of_getElem? (i := 208) (by decide +kernel)⟩
theorem lw_p12 : lw_okq (⟨"ShareStreams$Streams", "fillRow", "(LShareStreams$Bench;II)V"⟩, 1) := ⟨⟨by decide +kernel, by decide +kernel⟩, List.mem_of_getElem? (i := 96) (by decide +kernel), List.mem_of_getElem? (i := 211) (by decide +kernel), List.mem_of_getElem? (i := 212) (by decide +kernel)⟩
theorem lw_p13 : lw_okq (⟨"ShareStreams$Streams", "fillSource", "(IIII)V"⟩, 1) := ⟨⟨by decide +kernel, by decide +kernel⟩, List.mem_of_getElem? (i := 96) (by decide +kernel), List.mem_of_getElem? (i := 217) (by decide +kernel), List.mem_of_getElem? (i := 218) (by decide +kernel)⟩
theorem lw_p14 : lw_okq (⟨"ShareStreams$Streams", "setWord", "(IIJ)V"⟩, 1) := ⟨⟨by decide +kernel, by decide +kernel⟩, List.mem_of_getElem? (i := 96) (by decide +kernel), List.mem_of_getElem? (i := 224) (by decide +kernel), List.mem_of_getElem? (i := 225) (by decide +kernel)⟩
theorem lw_p15 : lw_okq (⟨"ShareStreams$Streams", "madeWord", "(LShareStreams$Bench;II)J"⟩, 1) := ⟨⟨by decide +kernel, by decide +kernel⟩, List.mem_of_getElem? (i := 96) (by decide +kernel), List.mem_of_getElem? (i := 228) (by decide +kernel), List.mem_of_getElem? (i := 229) (by decide +kernel)⟩
def lw_privs_1 : List (MethodName × Nat) := [(⟨"ShareStreams$Bench", "sources", "()I"⟩, 4), (⟨"ShareStreams$Bench", "kindOf", "(I)I"⟩, 4), (⟨"ShareStreams", "sumOfErrors", "()I"⟩, 8), (⟨"ShareStreams", "fillAll", "()V"⟩, 8), (⟨"ShareStreams$Figures", "workOut", "(LShareStreams$Bench;)V"⟩, 3), (⟨"ShareStreams$Figures", "exactShareIn", "(LShareStreams$Bench;I)I"⟩, 3), (⟨"ShareStreams$Bench", "numberOf", "(II)I"⟩, 4), (⟨"ShareStreams$Figures", "exactShareOf", "(I)I"⟩, 3), (⟨"ShareStreams$Figures", "depthIn", "(LShareStreams$Bench;I)I"⟩, 3), (⟨"ShareStreams$Figures", "depthOf", "(I)I"⟩, 3), (⟨"ShareStreams$Figures", "originsIn", "(LShareStreams$Bench;I)I"⟩, 3), (⟨"ShareStreams$Streams", "fill", "(LShareStreams$Bench;II)V"⟩, 1), (⟨"ShareStreams$Streams", "fillRow", "(LShareStreams$Bench;II)V"⟩, 1), (⟨"ShareStreams$Streams", "fillSource", "(IIII)V"⟩, 1), (⟨"ShareStreams$Streams", "setWord", "(IIJ)V"⟩, 1), (⟨"ShareStreams$Streams", "madeWord", "(LShareStreams$Bench;II)J"⟩, 1)]
theorem lw_r1 : ∀ q ∈ lw_privs_1, lw_okq q := List.forall_mem_cons.mpr ⟨lw_p0, List.forall_mem_cons.mpr ⟨lw_p1, List.forall_mem_cons.mpr ⟨lw_p2, List.forall_mem_cons.mpr ⟨lw_p3, List.forall_mem_cons.mpr ⟨lw_p4, List.forall_mem_cons.mpr ⟨lw_p5, List.forall_mem_cons.mpr ⟨lw_p6, List.forall_mem_cons.mpr ⟨lw_p7, List.forall_mem_cons.mpr ⟨lw_p8, List.forall_mem_cons.mpr ⟨lw_p9, List.forall_mem_cons.mpr ⟨lw_p10, List.forall_mem_cons.mpr ⟨lw_p11, List.forall_mem_cons.mpr ⟨lw_p12, List.forall_mem_cons.mpr ⟨lw_p13, List.forall_mem_cons.mpr ⟨lw_p14, List.forall_mem_cons.mpr ⟨lw_p15, fun _ h => absurd h List.not_mem_nil⟩⟩⟩⟩⟩⟩⟩⟩⟩⟩⟩⟩⟩⟩⟩⟩
theorem lw_p16 : lw_okq (⟨"ShareStreams$Streams", "wordAt", "(II)J"⟩, 1) := ⟨⟨by decide +kernel, by decide +kernel⟩, List.mem_of_getElem? (i := 96) (by decide +kernel), List.mem_of_getElem? (i := 232) (by decide +kernel), List.mem_of_getElem? (i := 233) (by decide +kernel)⟩
theorem lw_p17 : lw_okq (⟨"ShareStreams", "errorOfFilled", "(II)I"⟩, 8) := ⟨⟨by decide +kernel, by decide +kernel⟩, List.mem_of_getElem? (i := 11) (by decide +kernel), List.mem_of_getElem? (i := 237) (by decide +kernel), List.mem_of_getElem? (i := 238) (by decide +kernel)⟩
theorem lw_p18 : lw_okq (⟨"ShareStreams$Streams", "onesIn", "(II)I"⟩, 1) := ⟨⟨by decide +kernel, by decide +kernel⟩, List.mem_of_getElem? (i := 96) (by decide +kernel), List.mem_of_getElem? (i := 241) (by decide +kernel), List.mem_of_getElem? (i := 242) (by decide +kernel)⟩
theorem lw_p19 : lw_okq (⟨"ShareStreams$Streams", "onesInBoth", "(III)I"⟩, 1) := ⟨⟨by decide +kernel, by decide +kernel⟩, List.mem_of_getElem? (i := 96) (by decide +kernel), List.mem_of_getElem? (i := 245) (by decide +kernel), List.mem_of_getElem? (i := 246) (by decide +kernel)⟩
theorem lw_p20 : lw_okq (⟨"ShareStreams", "errorOfCount", "(III)I"⟩, 8) := ⟨⟨by decide +kernel, by decide +kernel⟩, List.mem_of_getElem? (i := 11) (by decide +kernel), List.mem_of_getElem? (i := 255) (by decide +kernel), List.mem_of_getElem? (i := 256) (by decide +kernel)⟩
theorem lw_p21 : lw_okq (⟨"ShareStreams", "lineWithGreatestError", "()I"⟩, 8) := ⟨⟨by decide +kernel, by decide +kernel⟩, List.mem_of_getElem? (i := 11) (by decide +kernel), List.mem_of_getElem? (i := 267) (by decide +kernel), List.mem_of_getElem? (i := 268) (by decide +kernel)⟩
theorem lw_p22 : lw_okq (⟨"ShareStreams$Figures", "greatestDepth", "(I)I"⟩, 3) := ⟨⟨by decide +kernel, by decide +kernel⟩, List.mem_of_getElem? (i := 80) (by decide +kernel), List.mem_of_getElem? (i := 272) (by decide +kernel), List.mem_of_getElem? (i := 273) (by decide +kernel)⟩
theorem lw_p23 : lw_okq (⟨"ShareStreams$History", "push", "(LShareStreams$Bench;)V"⟩, 3) := ⟨⟨by decide +kernel, by decide +kernel⟩, List.mem_of_getElem? (i := 42) (by decide +kernel), List.mem_of_getElem? (i := 292) (by decide +kernel), List.mem_of_getElem? (i := 293) (by decide +kernel)⟩
theorem lw_p24 : lw_okq (⟨"ShareStreams$History", "stateAt", "(I)LShareStreams$Bench;"⟩, 3) := ⟨⟨by decide +kernel, by decide +kernel⟩, List.mem_of_getElem? (i := 42) (by decide +kernel), List.mem_of_getElem? (i := 296) (by decide +kernel), List.mem_of_getElem? (i := 297) (by decide +kernel)⟩
theorem lw_p25 : lw_okq (⟨"ShareStreams$Bench", "copyFrom", "(LShareStreams$Bench;)V"⟩, 4) := ⟨⟨by decide +kernel, by decide +kernel⟩, List.mem_of_getElem? (i := 19) (by decide +kernel), List.mem_of_getElem? (i := 303) (by decide +kernel), List.mem_of_getElem? (i := 304) (by decide +kernel)⟩
theorem lw_p26 : lw_okq (⟨"ShareStreams$Bench", "addAll", "(LShareStreams$Bench;)V"⟩, 4) := ⟨⟨by decide +kernel, by decide +kernel⟩, List.mem_of_getElem? (i := 19) (by decide +kernel), List.mem_of_getElem? (i := 307) (by decide +kernel), List.mem_of_getElem? (i := 308) (by decide +kernel)⟩
theorem lw_p27 : lw_okq (⟨"ShareStreams$Bench", "add", "(IIII)V"⟩, 4) := ⟨⟨by decide +kernel, by decide +kernel⟩, List.mem_of_getElem? (i := 19) (by decide +kernel), List.mem_of_getElem? (i := 312) (by decide +kernel), List.mem_of_getElem? (i := 313) (by decide +kernel)⟩
theorem lw_p28 : lw_okq (⟨"ShareStreams$Bench", "setNumber", "(III)V"⟩, 4) := ⟨⟨by decide +kernel, by decide +kernel⟩, List.mem_of_getElem? (i := 19) (by decide +kernel), List.mem_of_getElem? (i := 317) (by decide +kernel), List.mem_of_getElem? (i := 318) (by decide +kernel)⟩
theorem lw_p29 : lw_okq (⟨"ShareStreams$Bench", "dropLast", "()V"⟩, 4) := ⟨⟨by decide +kernel, by decide +kernel⟩, List.mem_of_getElem? (i := 19) (by decide +kernel), List.mem_of_getElem? (i := 321) (by decide +kernel), List.mem_of_getElem? (i := 322) (by decide +kernel)⟩
theorem lw_p30 : lw_okq (⟨"ShareStreams", "addLine", "(IIII)I"⟩, 8) := ⟨⟨by decide +kernel, by decide +kernel⟩, List.mem_of_getElem? (i := 11) (by decide +kernel), List.mem_of_getElem? (i := 335) (by decide +kernel), List.mem_of_getElem? (i := 336) (by decide +kernel)⟩
theorem lw_p31 : lw_okq (⟨"ShareStreams$Bench", "has", "(I)Z"⟩, 4) := ⟨⟨by decide +kernel, by decide +kernel⟩, List.mem_of_getElem? (i := 19) (by decide +kernel), List.mem_of_getElem? (i := 345) (by decide +kernel), List.mem_of_getElem? (i := 346) (by decide +kernel)⟩
def lw_privs_2 : List (MethodName × Nat) := [(⟨"ShareStreams$Streams", "wordAt", "(II)J"⟩, 1), (⟨"ShareStreams", "errorOfFilled", "(II)I"⟩, 8), (⟨"ShareStreams$Streams", "onesIn", "(II)I"⟩, 1), (⟨"ShareStreams$Streams", "onesInBoth", "(III)I"⟩, 1), (⟨"ShareStreams", "errorOfCount", "(III)I"⟩, 8), (⟨"ShareStreams", "lineWithGreatestError", "()I"⟩, 8), (⟨"ShareStreams$Figures", "greatestDepth", "(I)I"⟩, 3), (⟨"ShareStreams$History", "push", "(LShareStreams$Bench;)V"⟩, 3), (⟨"ShareStreams$History", "stateAt", "(I)LShareStreams$Bench;"⟩, 3), (⟨"ShareStreams$Bench", "copyFrom", "(LShareStreams$Bench;)V"⟩, 4), (⟨"ShareStreams$Bench", "addAll", "(LShareStreams$Bench;)V"⟩, 4), (⟨"ShareStreams$Bench", "add", "(IIII)V"⟩, 4), (⟨"ShareStreams$Bench", "setNumber", "(III)V"⟩, 4), (⟨"ShareStreams$Bench", "dropLast", "()V"⟩, 4), (⟨"ShareStreams", "addLine", "(IIII)I"⟩, 8), (⟨"ShareStreams$Bench", "has", "(I)Z"⟩, 4)]
theorem lw_r2 : ∀ q ∈ lw_privs_2, lw_okq q := List.forall_mem_cons.mpr ⟨lw_p16, List.forall_mem_cons.mpr ⟨lw_p17, List.forall_mem_cons.mpr ⟨lw_p18, List.forall_mem_cons.mpr ⟨lw_p19, List.forall_mem_cons.mpr ⟨lw_p20, List.forall_mem_cons.mpr ⟨lw_p21, List.forall_mem_cons.mpr ⟨lw_p22, List.forall_mem_cons.mpr ⟨lw_p23, List.forall_mem_cons.mpr ⟨lw_p24, List.forall_mem_cons.mpr ⟨lw_p25, List.forall_mem_cons.mpr ⟨lw_p26, List.forall_mem_cons.mpr ⟨lw_p27, List.forall_mem_cons.mpr ⟨lw_p28, List.forall_mem_cons.mpr ⟨lw_p29, List.forall_mem_cons.mpr ⟨lw_p30, List.forall_mem_cons.mpr ⟨lw_p31, fun _ h => absurd h List.not_mem_nil⟩⟩⟩⟩⟩⟩⟩⟩⟩⟩⟩⟩⟩⟩⟩⟩
theorem lw_p32 : lw_okq (⟨"ShareStreams", "onesOver", "(II)I"⟩, 8) := ⟨⟨by decide +kernel, by decide +kernel⟩, List.mem_of_getElem? (i := 11) (by decide +kernel), List.mem_of_getElem? (i := 366) (by decide +kernel), List.mem_of_getElem? (i := 367) (by decide +kernel)⟩
theorem lw_p33 : lw_okq (⟨"ShareStreams", "errorOver", "(II)I"⟩, 8) := ⟨⟨by decide +kernel, by decide +kernel⟩, List.mem_of_getElem? (i := 11) (by decide +kernel), List.mem_of_getElem? (i := 370) (by decide +kernel), List.mem_of_getElem? (i := 371) (by decide +kernel)⟩
theorem lw_p34 : lw_okq (⟨"ShareStreams$Figures", "sourcesOf", "(I)I"⟩, 3) := ⟨⟨by decide +kernel, by decide +kernel⟩, List.mem_of_getElem? (i := 80) (by decide +kernel), List.mem_of_getElem? (i := 375) (by decide +kernel), List.mem_of_getElem? (i := 376) (by decide +kernel)⟩
theorem lw_p35 : lw_okq (⟨"ShareStreams$Streams", "bitAt", "(II)I"⟩, 1) := ⟨⟨by decide +kernel, by decide +kernel⟩, List.mem_of_getElem? (i := 96) (by decide +kernel), List.mem_of_getElem? (i := 389) (by decide +kernel), List.mem_of_getElem? (i := 390) (by decide +kernel)⟩
theorem lw_p36 : lw_okq (⟨"ShareStreams$Bench", "setSource", "(III)V"⟩, 4) := ⟨⟨by decide +kernel, by decide +kernel⟩, List.mem_of_getElem? (i := 19) (by decide +kernel), List.mem_of_getElem? (i := 406) (by decide +kernel), List.mem_of_getElem? (i := 407) (by decide +kernel)⟩
theorem lw_p37 : lw_okq (⟨"ShareStreams", "lastLengthBeyond", "(II)I"⟩, 8) := ⟨⟨by decide +kernel, by decide +kernel⟩, List.mem_of_getElem? (i := 11) (by decide +kernel), List.mem_of_getElem? (i := 428) (by decide +kernel), List.mem_of_getElem? (i := 429) (by decide +kernel)⟩
def lw_privs_3 : List (MethodName × Nat) := [(⟨"ShareStreams", "onesOver", "(II)I"⟩, 8), (⟨"ShareStreams", "errorOver", "(II)I"⟩, 8), (⟨"ShareStreams$Figures", "sourcesOf", "(I)I"⟩, 3), (⟨"ShareStreams$Streams", "bitAt", "(II)I"⟩, 1), (⟨"ShareStreams$Bench", "setSource", "(III)V"⟩, 4), (⟨"ShareStreams", "lastLengthBeyond", "(II)I"⟩, 8)]
theorem lw_r3 : ∀ q ∈ lw_privs_3, lw_okq q := List.forall_mem_cons.mpr ⟨lw_p32, List.forall_mem_cons.mpr ⟨lw_p33, List.forall_mem_cons.mpr ⟨lw_p34, List.forall_mem_cons.mpr ⟨lw_p35, List.forall_mem_cons.mpr ⟨lw_p36, List.forall_mem_cons.mpr ⟨lw_p37, fun _ h => absurd h List.not_mem_nil⟩⟩⟩⟩⟩⟩
def lw_privs : List (MethodName × Nat) := lw_privs_1 ++ (lw_privs_2 ++ (lw_privs_3))
def lw_tbl : List Cond := k2_sels lw_privs ++ tables_1
theorem lw_privs_ok : ∀ q ∈ lw_privs, lw_okq q := by
  show ∀ q ∈ lw_privs_1 ++ (lw_privs_2 ++ (lw_privs_3)), lw_okq q
  exact List.forall_mem_append.mpr ⟨lw_r1, List.forall_mem_append.mpr ⟨lw_r2, lw_r3⟩⟩
-- ===== end of PART A; then your names; then what follows =====
/-! ===== BEGIN words of one list among another's, by their places ===== -/
theorem goodIn_r {big : List Cond} (ws : List Cond) (ps : List Nat) (hp : ws = ps.filterMap (fun i => big[i]?)) (h : ws.all goodWord = true) : GoodIn big ws := by
  intro w hw
  have h1 := List.all_eq_true.mp h w hw
  rw [hp] at hw
  obtain ⟨i, -, hi⟩ := List.mem_filterMap.mp hw
  have hm : w ∈ big := by first | exact List.mem_of_getElem? hi | exact List.getElem?_mem hi
  exact ⟨hm, good_of_word h1⟩
theorem goodIn_app {big a b : List Cond} (ha : GoodIn big a) (hb : GoodIn big b) : GoodIn big (a ++ b) := fun w h => (List.mem_append.mp h).elim (ha w) (hb w)
theorem goodIn_ca {big a b : List Cond} {c : Cond} (ha : GoodIn big (c :: a)) (hb : GoodIn big b) : GoodIn big (c :: (a ++ b)) := fun w h => (List.mem_cons.mp h).elim (fun e => ha w (List.mem_cons.mpr (Or.inl e))) (fun h => (List.mem_append.mp h).elim (fun h => ha w (List.mem_cons.mpr (Or.inr h))) (hb w))
theorem goodIn_sub {big ws : List Cond} (hm : ∀ w ∈ ws, w ∈ big) (h : ws.all goodWord = true) : GoodIn big ws := fun w hw => ⟨hm w hw, good_of_word (List.all_eq_true.mp h w hw)⟩
/-! ===== END ===== -/

def RX0 : String := "ShareStreams$Bench"
def TX0 : u_T := fun k => match k with
  | 0 => ("ShareStreams$Bench", "length", "I", false)
  | 1 => ("ShareStreams$Bench", "size", "I", false)
  | 2 => ("ShareStreams$Bench", "kinds", "[I", true)
  | _ => ("ShareStreams$Bench", "numbers", "[I", true)
def tyX0 : Nat → FieldType := fun k => match k with
  | 0 => .int
  | 1 => .int
  | 2 => .array .int
  | _ => .array .int
abbrev wsX00 : List Cond := u_ws RX0 TX0 4
theorem nmX0 : ∀ a, a < 4 → ∀ b, b < 4 → a ≠ b → (TX0 a).2.1 ≠ (TX0 b).2.1 := by decide +kernel
theorem tyX0_ok : ∀ k, k < 4 → parseFieldDescriptor (TX0 k).2.2.1 = some (tyX0 k) := by decide +kernel
abbrev cX0_init : ByteArray := prog_2_method_1_code
def yX0_init : MethodName := ⟨RX0, "<init>", "()V"⟩
abbrev cX0_has : ByteArray := prog_2_method_2_code
def yX0_has : MethodName := ⟨RX0, "has", "(I)Z"⟩
abbrev cX0_kindOf : ByteArray := prog_2_method_3_code
def yX0_kindOf : MethodName := ⟨RX0, "kindOf", "(I)I"⟩
abbrev cX0_numberOf : ByteArray := prog_2_method_4_code
def yX0_numberOf : MethodName := ⟨RX0, "numberOf", "(II)I"⟩
abbrev cX0_setNumber : ByteArray := prog_2_method_5_code
def yX0_setNumber : MethodName := ⟨RX0, "setNumber", "(III)V"⟩
abbrev cX0_sources : ByteArray := prog_2_method_6_code
def yX0_sources : MethodName := ⟨RX0, "sources", "()I"⟩
abbrev cX0_add : ByteArray := prog_2_method_7_code
def yX0_add : MethodName := ⟨RX0, "add", "(IIII)V"⟩
abbrev cX0_addAll : ByteArray := prog_2_method_8_code
def yX0_addAll : MethodName := ⟨RX0, "addAll", "(LShareStreams$Bench;)V"⟩
abbrev cX0_setSource : ByteArray := prog_2_method_9_code
def yX0_setSource : MethodName := ⟨RX0, "setSource", "(III)V"⟩
abbrev cX0_dropLast : ByteArray := prog_2_method_10_code
def yX0_dropLast : MethodName := ⟨RX0, "dropLast", "()V"⟩
abbrev cX0_copyFrom : ByteArray := prog_2_method_11_code
def yX0_copyFrom : MethodName := ⟨RX0, "copyFrom", "(LShareStreams$Bench;)V"⟩
def RX1 : String := "ShareStreams$CircuitText"
def TX1 : u_T := fun k => match k with
  | 0 => ("ShareStreams$CircuitText", "characters", "[C", true)
  | 1 => ("ShareStreams$CircuitText", "size", "I", false)
  | _ => ("ShareStreams$CircuitText", "place", "I", false)
def tyX1 : Nat → FieldType := fun k => match k with
  | 0 => .array .char
  | 1 => .int
  | _ => .int
abbrev wsX10 : List Cond := u_ws RX1 TX1 3
theorem nmX1 : ∀ a, a < 3 → ∀ b, b < 3 → a ≠ b → (TX1 a).2.1 ≠ (TX1 b).2.1 := by decide +kernel
theorem tyX1_ok : ∀ k, k < 3 → parseFieldDescriptor (TX1 k).2.2.1 = some (tyX1 k) := by decide +kernel
abbrev cX1_init : ByteArray := prog_3_method_1_code
def yX1_init : MethodName := ⟨RX1, "<init>", "()V"⟩
def RX2 : String := "ShareStreams$Figures"
def TX2 : u_T := fun k => match k with
  | 0 => ("ShareStreams$Figures", "exactShares", "[I", true)
  | 1 => ("ShareStreams$Figures", "depths", "[I", true)
  | _ => ("ShareStreams$Figures", "origins", "[I", true)
def tyX2 : Nat → FieldType := fun k => match k with
  | 0 => .array .int
  | 1 => .array .int
  | _ => .array .int
abbrev wsX20 : List Cond := u_ws RX2 TX2 3
theorem nmX2 : ∀ a, a < 3 → ∀ b, b < 3 → a ≠ b → (TX2 a).2.1 ≠ (TX2 b).2.1 := by decide +kernel
theorem tyX2_ok : ∀ k, k < 3 → parseFieldDescriptor (TX2 k).2.2.1 = some (tyX2 k) := by decide +kernel
abbrev cX2_init : ByteArray := prog_4_method_1_code
def yX2_init : MethodName := ⟨RX2, "<init>", "()V"⟩
abbrev cX2_workOut : ByteArray := prog_4_method_2_code
def yX2_workOut : MethodName := ⟨RX2, "workOut", "(LShareStreams$Bench;)V"⟩
abbrev cX2_exactShareOf : ByteArray := prog_4_method_3_code
def yX2_exactShareOf : MethodName := ⟨RX2, "exactShareOf", "(I)I"⟩
abbrev cX2_depthOf : ByteArray := prog_4_method_4_code
def yX2_depthOf : MethodName := ⟨RX2, "depthOf", "(I)I"⟩
abbrev cX2_sourcesOf : ByteArray := prog_4_method_5_code
def yX2_sourcesOf : MethodName := ⟨RX2, "sourcesOf", "(I)I"⟩
abbrev cX2_greatestDepth : ByteArray := prog_4_method_6_code
def yX2_greatestDepth : MethodName := ⟨RX2, "greatestDepth", "(I)I"⟩
abbrev cX2_exactShareIn : ByteArray := prog_4_method_7_code
def yX2_exactShareIn : MethodName := ⟨RX2, "exactShareIn", "(LShareStreams$Bench;I)I"⟩
abbrev cX2_productOf : ByteArray := prog_4_method_8_code
def yX2_productOf : MethodName := ⟨RX2, "productOf", "(JJ)I"⟩
abbrev cX2_mixOf : ByteArray := prog_4_method_9_code
def yX2_mixOf : MethodName := ⟨RX2, "mixOf", "(JJJ)I"⟩
abbrev cX2_depthIn : ByteArray := prog_4_method_10_code
def yX2_depthIn : MethodName := ⟨RX2, "depthIn", "(LShareStreams$Bench;I)I"⟩
abbrev cX2_originsIn : ByteArray := prog_4_method_11_code
def yX2_originsIn : MethodName := ⟨RX2, "originsIn", "(LShareStreams$Bench;I)I"⟩
def RX3 : String := "ShareStreams$History"
def TX3 : u_T := fun k => match k with
  | 0 => ("ShareStreams$History", "states", "[LShareStreams$Bench;", true)
  | 1 => ("ShareStreams$History", "oldest", "I", false)
  | _ => ("ShareStreams$History", "size", "I", false)
def tyX3 : Nat → FieldType := fun k => match k with
  | 0 => .array (.object "ShareStreams$Bench")
  | 1 => .int
  | _ => .int
abbrev wsX30 : List Cond := u_ws RX3 TX3 3
theorem nmX3 : ∀ a, a < 3 → ∀ b, b < 3 → a ≠ b → (TX3 a).2.1 ≠ (TX3 b).2.1 := by decide +kernel
theorem tyX3_ok : ∀ k, k < 3 → parseFieldDescriptor (TX3 k).2.2.1 = some (tyX3 k) := by decide +kernel
abbrev cX3_init : ByteArray := prog_5_method_1_code
def yX3_init : MethodName := ⟨RX3, "<init>", "()V"⟩
abbrev cX3_push : ByteArray := prog_5_method_2_code
def yX3_push : MethodName := ⟨RX3, "push", "(LShareStreams$Bench;)V"⟩
abbrev cX3_stateAt : ByteArray := prog_5_method_4_code
def yX3_stateAt : MethodName := ⟨RX3, "stateAt", "(I)LShareStreams$Bench;"⟩
def RX4 : String := "ShareStreams$Streams"
def TX4 : u_T := fun k => match k with
  | _ => ("ShareStreams$Streams", "rows", "[[J", true)
def tyX4 : Nat → FieldType := fun k => match k with
  | _ => .array (.array .long)
abbrev wsX40 : List Cond := u_ws RX4 TX4 1
theorem nmX4 : ∀ a, a < 1 → ∀ b, b < 1 → a ≠ b → (TX4 a).2.1 ≠ (TX4 b).2.1 := by decide +kernel
theorem tyX4_ok : ∀ k, k < 1 → parseFieldDescriptor (TX4 k).2.2.1 = some (tyX4 k) := by decide +kernel
abbrev cX4_init : ByteArray := prog_6_method_1_code
def yX4_init : MethodName := ⟨RX4, "<init>", "()V"⟩
abbrev cX4_fill : ByteArray := prog_6_method_2_code
def yX4_fill : MethodName := ⟨RX4, "fill", "(LShareStreams$Bench;II)V"⟩
abbrev cX4_fillRow : ByteArray := prog_6_method_4_code
def yX4_fillRow : MethodName := ⟨RX4, "fillRow", "(LShareStreams$Bench;II)V"⟩
abbrev cX4_fillSource : ByteArray := prog_6_method_5_code
def yX4_fillSource : MethodName := ⟨RX4, "fillSource", "(IIII)V"⟩
abbrev cX4_nextRegister : ByteArray := prog_6_method_6_code
def yX4_nextRegister : MethodName := ⟨RX4, "nextRegister", "(I)I"⟩
abbrev cX4_madeWord : ByteArray := prog_6_method_7_code
def yX4_madeWord : MethodName := ⟨RX4, "madeWord", "(LShareStreams$Bench;II)J"⟩
abbrev cX4_bitAt : ByteArray := prog_6_method_8_code
def yX4_bitAt : MethodName := ⟨RX4, "bitAt", "(II)I"⟩
abbrev cX4_onesIn : ByteArray := prog_6_method_9_code
def yX4_onesIn : MethodName := ⟨RX4, "onesIn", "(II)I"⟩
abbrev cX4_onesInBoth : ByteArray := prog_6_method_10_code
def yX4_onesInBoth : MethodName := ⟨RX4, "onesInBoth", "(III)I"⟩
abbrev cX4_wordAt : ByteArray := prog_6_method_11_code
def yX4_wordAt : MethodName := ⟨RX4, "wordAt", "(II)J"⟩
abbrev cX4_setWord : ByteArray := prog_6_method_12_code
def yX4_setWord : MethodName := ⟨RX4, "setWord", "(IIJ)V"⟩
def RX5 : String := "ShareStreams"
def TX5 : u_T := fun k => match k with
  | 0 => ("ShareStreams", "bench", "LShareStreams$Bench;", true)
  | 1 => ("ShareStreams", "snapshot", "LShareStreams$Bench;", true)
  | 2 => ("ShareStreams", "hasSnapshot", "Z", false)
  | 3 => ("ShareStreams", "spare", "LShareStreams$Bench;", true)
  | 4 => ("ShareStreams", "history", "LShareStreams$History;", true)
  | 5 => ("ShareStreams", "text", "LShareStreams$CircuitText;", true)
  | 6 => ("ShareStreams", "figures", "LShareStreams$Figures;", true)
  | _ => ("ShareStreams", "streams", "LShareStreams$Streams;", true)
def tyX5 : Nat → FieldType := fun k => match k with
  | 0 => .object "ShareStreams$Bench"
  | 1 => .object "ShareStreams$Bench"
  | 2 => .boolean
  | 3 => .object "ShareStreams$Bench"
  | 4 => .object "ShareStreams$History"
  | 5 => .object "ShareStreams$CircuitText"
  | 6 => .object "ShareStreams$Figures"
  | _ => .object "ShareStreams$Streams"
abbrev wsX50 : List Cond := u_ws RX5 TX5 8
theorem nmX5 : ∀ a, a < 8 → ∀ b, b < 8 → a ≠ b → (TX5 a).2.1 ≠ (TX5 b).2.1 := by decide +kernel
theorem tyX5_ok : ∀ k, k < 8 → parseFieldDescriptor (TX5 k).2.2.1 = some (tyX5 k) := by decide +kernel
abbrev cX5_init : ByteArray := prog_1_method_1_code
def yX5_init : MethodName := ⟨RX5, "<init>", "()V"⟩
abbrev cX5_source : ByteArray := prog_1_method_2_code
def yX5_source : MethodName := ⟨RX5, "source", "(II)I"⟩
abbrev cX5_gate : ByteArray := prog_1_method_3_code
def yX5_gate : MethodName := ⟨RX5, "gate", "(III)I"⟩
abbrev cX5_choose : ByteArray := prog_1_method_4_code
def yX5_choose : MethodName := ⟨RX5, "choose", "(III)I"⟩
abbrev cX5_turn : ByteArray := prog_1_method_5_code
def yX5_turn : MethodName := ⟨RX5, "turn", "(I)I"⟩
abbrev cX5_delay : ByteArray := prog_1_method_6_code
def yX5_delay : MethodName := ⟨RX5, "delay", "(II)I"⟩
abbrev cX5_reseed : ByteArray := prog_1_method_7_code
def yX5_reseed : MethodName := ⟨RX5, "reseed", "(III)I"⟩
abbrev cX5_removeLast : ByteArray := prog_1_method_8_code
def yX5_removeLast : MethodName := ⟨RX5, "removeLast", "()I"⟩
abbrev cX5_setLength : ByteArray := prog_1_method_9_code
def yX5_setLength : MethodName := ⟨RX5, "setLength", "(I)I"⟩
abbrev cX5_line : ByteArray := prog_1_method_16_code
def yX5_line : MethodName := ⟨RX5, "line", "(II)I"⟩
abbrev cX5_bit : ByteArray := prog_1_method_17_code
def yX5_bit : MethodName := ⟨RX5, "bit", "(II)I"⟩
abbrev cX5_overlap : ByteArray := prog_1_method_18_code
def yX5_overlap : MethodName := ⟨RX5, "overlap", "(II)I"⟩
abbrev cX5_errorAt : ByteArray := prog_1_method_19_code
def yX5_errorAt : MethodName := ⟨RX5, "errorAt", "(II)I"⟩
abbrev cX5_settles : ByteArray := prog_1_method_20_code
def yX5_settles : MethodName := ⟨RX5, "settles", "(II)I"⟩
abbrev cX5_unlike : ByteArray := prog_1_method_22_code
def yX5_unlike : MethodName := ⟨RX5, "unlike", "(I)I"⟩
abbrev cX5_count : ByteArray := prog_1_method_23_code
def yX5_count : MethodName := ⟨RX5, "count", "(I)I"⟩
abbrev cX5_addLine : ByteArray := prog_1_method_24_code
def yX5_addLine : MethodName := ⟨RX5, "addLine", "(IIII)I"⟩
abbrev cX5_onesOver : ByteArray := prog_1_method_25_code
def yX5_onesOver : MethodName := ⟨RX5, "onesOver", "(II)I"⟩
abbrev cX5_errorOver : ByteArray := prog_1_method_26_code
def yX5_errorOver : MethodName := ⟨RX5, "errorOver", "(II)I"⟩
abbrev cX5_errorOfFilled : ByteArray := prog_1_method_27_code
def yX5_errorOfFilled : MethodName := ⟨RX5, "errorOfFilled", "(II)I"⟩
abbrev cX5_errorOfCount : ByteArray := prog_1_method_28_code
def yX5_errorOfCount : MethodName := ⟨RX5, "errorOfCount", "(III)I"⟩
abbrev cX5_lastLengthBeyond : ByteArray := prog_1_method_29_code
def yX5_lastLengthBeyond : MethodName := ⟨RX5, "lastLengthBeyond", "(II)I"⟩
abbrev cX5_sumOfErrors : ByteArray := prog_1_method_31_code
def yX5_sumOfErrors : MethodName := ⟨RX5, "sumOfErrors", "()I"⟩
abbrev cX5_lineWithGreatestError : ByteArray := prog_1_method_32_code
def yX5_lineWithGreatestError : MethodName := ⟨RX5, "lineWithGreatestError", "()I"⟩
abbrev cX5_fillAll : ByteArray := prog_1_method_33_code
def yX5_fillAll : MethodName := ⟨RX5, "fillAll", "()V"⟩
abbrev cX5_shareOf : ByteArray := prog_1_method_35_code
def yX5_shareOf : MethodName := ⟨RX5, "shareOf", "(II)I"⟩
abbrev cX5_isShareAndSeed : ByteArray := prog_1_method_36_code
def yX5_isShareAndSeed : MethodName := ⟨RX5, "isShareAndSeed", "(II)Z"⟩
abbrev cX5_isWithin : ByteArray := prog_1_method_37_code
def yX5_isWithin : MethodName := ⟨RX5, "isWithin", "(III)Z"⟩
abbrev cX5_numbersOfKind : ByteArray := prog_1_method_38_code
def yX5_numbersOfKind : MethodName := ⟨RX5, "numbersOfKind", "(I)I"⟩
abbrev cX5_linesOfKind : ByteArray := prog_1_method_39_code
def yX5_linesOfKind : MethodName := ⟨RX5, "linesOfKind", "(I)I"⟩
abbrev cX5_elementAt : ByteArray := prog_1_method_40_code
def yX5_elementAt : MethodName := ⟨RX5, "elementAt", "([II)I"⟩
abbrev cX5_setElement : ByteArray := prog_1_method_41_code
def yX5_setElement : MethodName := ⟨RX5, "setElement", "([III)V"⟩
def RX6 : String := "ShareStreamsModel"
def TX6 : u_T := fun k => match k with
  | _ => ("", "", "", false)
def tyX6 : Nat → FieldType := fun k => match k with
  | _ => .int
abbrev wsX60 : List Cond := u_ws RX6 TX6 0
theorem nmX6 : ∀ a, a < 0 → ∀ b, b < 0 → a ≠ b → (TX6 a).2.1 ≠ (TX6 b).2.1 := by decide +kernel
theorem tyX6_ok : ∀ k, k < 0 → parseFieldDescriptor (TX6 k).2.2.1 = some (tyX6 k) := by decide +kernel
def RJ6 : String := "java/lang/Integer"
def TJ6 : u_T := fun k => match k with
  | _ => ("", "", "", false)
def tyJ6 : Nat → FieldType := fun k => match k with
  | _ => .int
abbrev wsJ60 : List Cond := u_ws RJ6 TJ6 0
theorem nmJ6 : ∀ a, a < 0 → ∀ b, b < 0 → a ≠ b → (TJ6 a).2.1 ≠ (TJ6 b).2.1 := by decide +kernel
theorem tyJ6_ok : ∀ k, k < 0 → parseFieldDescriptor (TJ6 k).2.2.1 = some (tyJ6 k) := by decide +kernel
abbrev cJ6_bitCount_0f7a4 : ByteArray := prog_9_method_49_code
def yJ6_bitCount_0f7a4 : MethodName := ⟨RJ6, "bitCount", "(I)I"⟩
def RJ13 : String := "java/lang/Long"
def TJ13 : u_T := fun k => match k with
  | _ => ("", "", "", false)
def tyJ13 : Nat → FieldType := fun k => match k with
  | _ => .int
abbrev wsJ130 : List Cond := u_ws RJ13 TJ13 0
theorem nmJ13 : ∀ a, a < 0 → ∀ b, b < 0 → a ≠ b → (TJ13 a).2.1 ≠ (TJ13 b).2.1 := by decide +kernel
theorem tyJ13_ok : ∀ k, k < 0 → parseFieldDescriptor (TJ13 k).2.2.1 = some (tyJ13 k) := by decide +kernel
abbrev cJ13_bitCount_95d88 : ByteArray := prog_10_method_50_code
def yJ13_bitCount_95d88 : MethodName := ⟨RJ13, "bitCount", "(J)I"⟩
def RJ9 : String := "java/lang/Math"
def TJ9 : u_T := fun k => match k with
  | _ => ("", "", "", false)
def tyJ9 : Nat → FieldType := fun k => match k with
  | _ => .int
abbrev wsJ90 : List Cond := u_ws RJ9 TJ9 0
theorem nmJ9 : ∀ a, a < 0 → ∀ b, b < 0 → a ≠ b → (TJ9 a).2.1 ≠ (TJ9 b).2.1 := by decide +kernel
theorem tyJ9_ok : ∀ k, k < 0 → parseFieldDescriptor (TJ9 k).2.2.1 = some (tyJ9 k) := by decide +kernel
abbrev cJ9_floorMod_7cf53 : ByteArray := prog_11_method_50_code
def yJ9_floorMod_7cf53 : MethodName := ⟨RJ9, "floorMod", "(II)I"⟩
abbrev cJ9_abs_0f7a4 : ByteArray := prog_11_method_59_code
def yJ9_abs_0f7a4 : MethodName := ⟨RJ9, "abs", "(I)I"⟩
abbrev cJ9_max_7cf53 : ByteArray := prog_11_method_65_code
def yJ9_max_7cf53 : MethodName := ⟨RJ9, "max", "(II)I"⟩
def RL : String := "ShareStreamsLaw"
abbrev cL_cell : ByteArray := method_2_code
def yL_cell : MethodName := ⟨RL, "cell", "([II)I"⟩
abbrev cL_up : ByteArray := method_3_code
def yL_up : MethodName := ⟨RL, "up", "(II)I"⟩
abbrev cL_isStep : ByteArray := method_4_code
def yL_isStep : MethodName := ⟨RL, "isStep", "(LShareStreams;LShareStreams;II)Z"⟩
abbrev cL_isTurned : ByteArray := method_5_code
def yL_isTurned : MethodName := ⟨RL, "isTurned", "(LShareStreams;LShareStreams;I)Z"⟩
abbrev cL_isLine : ByteArray := method_6_code
def yL_isLine : MethodName := ⟨RL, "isLine", "(LShareStreams;III)Z"⟩
abbrev cL_isWell : ByteArray := method_7_code
def yL_isWell : MethodName := ⟨RL, "isWell", "(LShareStreams;)Z"⟩
abbrev cL_law : ByteArray := code
def yL_law : MethodName := ⟨RL, "law", "([I)Z"⟩
set_option maxRecDepth 20000 in
abbrev vwCl : List vw_C := [(RX0, TX0, 4), (RX1, TX1, 3), (RX2, TX2, 3), (RX3, TX3, 3), (RX4, TX4, 1), (RX5, TX5, 8)]
/-- the words that a call carries on -/
def gW : List Cond := lw_tbl.filter goodWord
theorem gW_tbl {w : Cond} (h : w ∈ gW) : w ∈ lw_tbl := (List.mem_filter.mp h).1
theorem gW_good : ∀ w ∈ gW, goodWord w = true := fun _ h => (List.mem_filter.mp h).2
theorem gW_of {w : Cond} (h : w ∈ lw_tbl) (hg : goodWord w = true) : w ∈ gW := List.mem_filter.mpr ⟨h, hg⟩
theorem gW_t {w : Cond} (h : w ∈ tables_1) (hg : goodWord w = true) : w ∈ gW := gW_of (List.mem_append_right _ h) hg
theorem gW_all {ws : List Cond} (h : ∀ w ∈ ws, w ∈ tables_1 ∧ goodWord w = true) : ∀ w ∈ ws, w ∈ gW := fun w hw => gW_t (h w hw).1 (h w hw).2
theorem inlX0 : ∀ w ∈ wsX00, w ∈ gW := gW_all (by decide +kernel)
theorem inlX1 : ∀ w ∈ wsX10, w ∈ gW := gW_all (by decide +kernel)
theorem inlX2 : ∀ w ∈ wsX20, w ∈ gW := gW_all (by decide +kernel)
theorem inlX3 : ∀ w ∈ wsX30, w ∈ gW := gW_all (by decide +kernel)
theorem inlX4 : ∀ w ∈ wsX40, w ∈ gW := gW_all (by decide +kernel)
theorem inlX5 : ∀ w ∈ wsX50, w ∈ gW := gW_all (by decide +kernel)
