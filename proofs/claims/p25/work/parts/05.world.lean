/-! the state of an object: ints by region and place, longs by row and place; an object's world is one list of 48 cells -/
abbrev CF : Type := Nat → Nat → Int32
abbrev GF : Type := Nat → Nat → Int64
abbrev SS : Type := CF × GF
abbrev EV : Type := va_G × (Nat → ClassId) × (Nat → Nat) × (Nat → Prop) × (Nat → Nat)
def eD (E : EV) : va_G := E.1
def eT (E : EV) : Nat → ClassId := E.2.1
def eA (E : EV) : Nat → Nat := E.2.2.1
def eR (E : EV) : Nat → Prop := E.2.2.2.1
def eS (E : EV) : Nat → Nat := E.2.2.2.2
def up (c : CF) (r i : Nat) (v : Int32) : CF := fun q => if q = r then upd (c r) i v else c q
def upG (g : GF) (r i : Nat) (v : Int64) : GF := fun q => if q = r then vp_updL (g r) i v else g q
theorem up_s (c : CF) (r i : Nat) (v : Int32) : up c r i v r i = v := by simp [up, upd]
theorem up_i (c : CF) {r i j : Nat} (v : Int32) (h : j ≠ i) : up c r i v r j = c r j := by simp [up, upd, h]
theorem up_r (c : CF) {r i q : Nat} (v : Int32) (h : q ≠ r) : up c r i v q = c q := by simp [up, h]
theorem up_at (c : CF) (r i : Nat) (v : Int32) (q j : Nat) : up c r i v q j = if q = r ∧ j = i then v else c q j := by
  by_cases h : q = r
  · subst h
    by_cases h2 : j = i
    · subst h2; simp [up, upd]
    · simp [up, upd, h2]
  · simp [up, h]
theorem upG_at (c : GF) (r i : Nat) (v : Int64) (q j : Nat) : upG c r i v q j = if q = r ∧ j = i then v else c q j := by
  by_cases h : q = r
  · subst h
    by_cases h2 : j = i
    · subst h2; simp [upG, vp_updL]
    · simp [upG, vp_updL, h2]
  · simp [upG, h]
/-- the world -/
def wl (E : EV) (u : SS) : va_W := [(eA E 0, .inr (5, [.ref (eA E 10), .ref (eA E 13), .int (u.1 0 0), .ref (eA E 16), .ref (eA E 1), .ref (eA E 3), .ref (eA E 5), .ref (eA E 9)])), (eA E 1, .inr (3, [.ref (eA E 2), .int (u.1 0 1), .int (u.1 0 2)])), (eA E 2, .inl (eT E 3, 4, .inr (.inr (.inr (.inr (fun i => some (eA E (19 + 3 * i)))))))), (eA E 3, .inr (1, [.ref (eA E 4), .int (u.1 0 3), .int (u.1 0 4)])), (eA E 4, .inl (eT E 1, 80, .inl (u.1 6))), (eA E 5, .inr (2, [.ref (eA E 6), .ref (eA E 7), .ref (eA E 8)])), (eA E 6, .inl (eT E 0, 16, .inl (u.1 3))), (eA E 7, .inl (eT E 0, 16, .inl (u.1 4))), (eA E 8, .inl (eT E 0, 16, .inl (u.1 5))), (eA E 9, .inr (4, [.ref (eA E 31)])), (eA E 10, .inr (0, [.int (u.1 1 0), .int (u.1 2 0), .ref (eA E 11), .ref (eA E 12)])), (eA E 11, .inl (eT E 0, 16, .inl (u.1 20))), (eA E 12, .inl (eT E 0, 48, .inl (u.1 30))), (eA E 13, .inr (0, [.int (u.1 1 1), .int (u.1 2 1), .ref (eA E 14), .ref (eA E 15)])), (eA E 14, .inl (eT E 0, 16, .inl (u.1 21))), (eA E 15, .inl (eT E 0, 48, .inl (u.1 31))), (eA E 16, .inr (0, [.int (u.1 1 2), .int (u.1 2 2), .ref (eA E 17), .ref (eA E 18)])), (eA E 17, .inl (eT E 0, 16, .inl (u.1 22))), (eA E 18, .inl (eT E 0, 48, .inl (u.1 32))), (eA E 19, .inr (0, [.int (u.1 1 3), .int (u.1 2 3), .ref (eA E 20), .ref (eA E 21)])), (eA E 20, .inl (eT E 0, 16, .inl (u.1 23))), (eA E 21, .inl (eT E 0, 48, .inl (u.1 33))), (eA E 22, .inr (0, [.int (u.1 1 4), .int (u.1 2 4), .ref (eA E 23), .ref (eA E 24)])), (eA E 23, .inl (eT E 0, 16, .inl (u.1 24))), (eA E 24, .inl (eT E 0, 48, .inl (u.1 34))), (eA E 25, .inr (0, [.int (u.1 1 5), .int (u.1 2 5), .ref (eA E 26), .ref (eA E 27)])), (eA E 26, .inl (eT E 0, 16, .inl (u.1 25))), (eA E 27, .inl (eT E 0, 48, .inl (u.1 35))), (eA E 28, .inr (0, [.int (u.1 1 6), .int (u.1 2 6), .ref (eA E 29), .ref (eA E 30)])), (eA E 29, .inl (eT E 0, 16, .inl (u.1 26))), (eA E 30, .inl (eT E 0, 48, .inl (u.1 36))), (eA E 31, .inl (eT E 4, 16, .inr (.inr (.inr (.inr (fun i => some (eA E (32 + i)))))))), (eA E 32, .inl (eT E 2, 16, .inr (.inl (u.2 0)))), (eA E 33, .inl (eT E 2, 16, .inr (.inl (u.2 1)))), (eA E 34, .inl (eT E 2, 16, .inr (.inl (u.2 2)))), (eA E 35, .inl (eT E 2, 16, .inr (.inl (u.2 3)))), (eA E 36, .inl (eT E 2, 16, .inr (.inl (u.2 4)))), (eA E 37, .inl (eT E 2, 16, .inr (.inl (u.2 5)))), (eA E 38, .inl (eT E 2, 16, .inr (.inl (u.2 6)))), (eA E 39, .inl (eT E 2, 16, .inr (.inl (u.2 7)))), (eA E 40, .inl (eT E 2, 16, .inr (.inl (u.2 8)))), (eA E 41, .inl (eT E 2, 16, .inr (.inl (u.2 9)))), (eA E 42, .inl (eT E 2, 16, .inr (.inl (u.2 10)))), (eA E 43, .inl (eT E 2, 16, .inr (.inl (u.2 11)))), (eA E 44, .inl (eT E 2, 16, .inr (.inl (u.2 12)))), (eA E 45, .inl (eT E 2, 16, .inr (.inl (u.2 13)))), (eA E 46, .inl (eT E 2, 16, .inr (.inl (u.2 14)))), (eA E 47, .inl (eT E 2, 16, .inr (.inl (u.2 15))))]
/-- the nest mates' links -/
def nestL : List Cond := [.methodLinkNest "ShareStreams" 9 ⟨"ShareStreams$Bench", "<init>", "()V"⟩ "ShareStreams", .fieldLinkNest "ShareStreams" 97 "ShareStreams$Bench" "length" "I" "ShareStreams", .fieldLinkNest "ShareStreams$Figures" 21 "ShareStreams$Bench" "size" "I" "ShareStreams", .fieldLinkNest "ShareStreams" 90 "ShareStreams$Bench" "size" "I" "ShareStreams", .methodLinkNest "ShareStreams" 28 ⟨"ShareStreams$History", "<init>", "()V"⟩ "ShareStreams", .methodLinkNest "ShareStreams$History" 24 ⟨"ShareStreams$Bench", "<init>", "()V"⟩ "ShareStreams", .fieldLinkNest "ShareStreams" 118 "ShareStreams$History" "size" "I" "ShareStreams", .methodLinkNest "ShareStreams" 35 ⟨"ShareStreams$CircuitText", "<init>", "()V"⟩ "ShareStreams", .fieldLinkNest "ShareStreams" 113 "ShareStreams$CircuitText" "size" "I" "ShareStreams", .methodLinkNest "ShareStreams" 42 ⟨"ShareStreams$Figures", "<init>", "()V"⟩ "ShareStreams", .methodLinkNest "ShareStreams" 49 ⟨"ShareStreams$Streams", "<init>", "()V"⟩ "ShareStreams", .methodLinkNest "ShareStreams" 177 ⟨"ShareStreams$Bench", "sources", "()I"⟩ "ShareStreams", .methodLinkNest "ShareStreams$Bench" 25 ⟨"ShareStreams", "elementAt", "([II)I"⟩ "ShareStreams", .methodLinkNest "ShareStreams" 134 ⟨"ShareStreams$Figures", "workOut", "(LShareStreams$Bench;)V"⟩ "ShareStreams", .methodLinkNest "ShareStreams$Figures" 60 ⟨"ShareStreams$Bench", "numberOf", "(II)I"⟩ "ShareStreams", .methodLinkNest "ShareStreams$Figures" 41 ⟨"ShareStreams", "elementAt", "([II)I"⟩ "ShareStreams", .methodLinkNest "ShareStreams$Figures" 66 ⟨"ShareStreams$Bench", "kindOf", "(I)I"⟩ "ShareStreams", .methodLinkNest "ShareStreams$Figures" 31 ⟨"ShareStreams", "setElement", "([III)V"⟩ "ShareStreams", .methodLinkNest "ShareStreams$Figures" 80 ⟨"ShareStreams", "linesOfKind", "(I)I"⟩ "ShareStreams", .methodLinkNest "ShareStreams" 149 ⟨"ShareStreams$Streams", "fill", "(LShareStreams$Bench;II)V"⟩ "ShareStreams", .methodLinkNest "ShareStreams$Streams" 20 ⟨"ShareStreams$Bench", "kindOf", "(I)I"⟩ "ShareStreams", .methodLinkNest "ShareStreams$Streams" 26 ⟨"ShareStreams$Bench", "numberOf", "(II)I"⟩ "ShareStreams", .methodLinkNest "ShareStreams" 165 ⟨"ShareStreams$Streams", "onesIn", "(II)I"⟩ "ShareStreams", .methodLinkNest "ShareStreams" 137 ⟨"ShareStreams$Figures", "exactShareOf", "(I)I"⟩ "ShareStreams", .methodLinkNest "ShareStreams" 187 ⟨"ShareStreams$Figures", "greatestDepth", "(I)I"⟩ "ShareStreams", .methodLinkNest "ShareStreams" 82 ⟨"ShareStreams$History", "push", "(LShareStreams$Bench;)V"⟩ "ShareStreams", .methodLinkNest "ShareStreams$History" 29 ⟨"ShareStreams$Bench", "copyFrom", "(LShareStreams$Bench;)V"⟩ "ShareStreams", .methodLinkNest "ShareStreams$Bench" 29 ⟨"ShareStreams", "setElement", "([III)V"⟩ "ShareStreams", .methodLinkNest "ShareStreams" 94 ⟨"ShareStreams$Bench", "dropLast", "()V"⟩ "ShareStreams", .methodLinkNest "ShareStreams" 190 ⟨"ShareStreams$Bench", "add", "(IIII)V"⟩ "ShareStreams", .methodLinkNest "ShareStreams" 63 ⟨"ShareStreams$Bench", "has", "(I)Z"⟩ "ShareStreams", .methodLinkNest "ShareStreams" 72 ⟨"ShareStreams$Bench", "kindOf", "(I)I"⟩ "ShareStreams", .methodLinkNest "ShareStreams" 77 ⟨"ShareStreams$Bench", "numberOf", "(II)I"⟩ "ShareStreams", .methodLinkNest "ShareStreams" 143 ⟨"ShareStreams$Figures", "depthOf", "(I)I"⟩ "ShareStreams", .methodLinkNest "ShareStreams" 146 ⟨"ShareStreams$Figures", "sourcesOf", "(I)I"⟩ "ShareStreams", .methodLinkNest "ShareStreams" 153 ⟨"ShareStreams$Streams", "bitAt", "(II)I"⟩ "ShareStreams", .methodLinkNest "ShareStreams" 86 ⟨"ShareStreams$Bench", "setSource", "(III)V"⟩ "ShareStreams", .methodLinkNest "ShareStreams" 161 ⟨"ShareStreams$Streams", "onesInBoth", "(III)I"⟩ "ShareStreams"]
def nestW : Cond → Bool
  | .methodLinkNest _ _ _ _ => true
  | .fieldLinkNest _ _ _ _ _ _ => true
  | _ => false
theorem nestL_nest : ∀ w ∈ nestL, nestW w = true := List.all_eq_true.mp (by decide +kernel)
theorem nestL_in : ∀ w ∈ nestL, w ∈ lw_tbl := by decide +kernel
theorem nest_warm {w : Cond} (h : nestW w = true) {s U : State} (hW : s.WarmedH U.vm) (hZ : va_Nw w s) : va_Nw w U := by
  cases w <;> first | (exact va_Nw.warmM hW hZ) | (exact va_Nw.warmF hW hZ) | (cases h)
theorem nest_same {w : Cond} (h : nestW w = true) {u U : State} (hv : u.vm = U.vm) (hZ : va_Nw w u) : va_Nw w U := by
  cases w <;> first | (exact va_Nw.same rfl hv hZ) | (cases h)
theorem nest_use {w : Cond} (h : nestW w = true) {A : Array Value} {U : State} (hZ : va_Nw w U) : w.before A U = true := by
  cases w <;> first | (exact va_Nw.use rfl hZ) | (cases h)
theorem nest_of {w : Cond} (h : nestW w = true) {A : Array Value} {U : State} (hZ : w.before A U = true) : va_Nw w U := by
  cases w <;> first | (exact va_Nw.of rfl hZ) | (cases h)
theorem gW_in {y : MethodName} {cc : ByteArray} {k : Nat} {ret : Option FieldType} (h : Cond.code y cc k ret ∈ gW) : GoodIn gW (Cond.code y cc k ret :: gW) := fun w hw => (List.mem_cons.mp hw).elim (fun e => by rw [e]; exact ⟨h, good_of_word (gW_good _ h)⟩) (fun hw => ⟨hw, good_of_word (gW_good _ hw)⟩)
/-- the two tables -/
def tblF (q : Nat) : Nat → Int32 := fun j => if q = 0 then (([2, 2, 2, 2, 3, 1, 2] : List Int32).getD j 0) else (([0, 2, 2, 2, 3, 1, 1] : List Int32).getD j 0)
def tysL (E : EV) : List (ClassId × FieldType) := [(eT E 0, .int), (eT E 1, .char), (eT E 2, .long), (eT E 3, .object "ShareStreams$Bench"), (eT E 4, .array .long)]
/-- what a start gives beside the world, and no call changes -/
def KK (E : EV) (U : State) : Prop :=
  va_K (eD E) vwCl (tysL E) U ∧ (∀ w ∈ nestL, va_Nw w U) ∧
  (va_Z "ShareStreams" "NUMBERS_OF_KIND" "[I" (.ref (eS E 0)) (eR E) U U.heap ∧ va_T .int (eS E 0) 7 (fun j => .int (tblF 0 j)) (eR E) U U.heap) ∧
  (va_Z "ShareStreams" "LINES_OF_KIND" "[I" (.ref (eS E 1)) (eR E) U U.heap ∧ va_T .int (eS E 1) 7 (fun j => .int (tblF 1 j)) (eR E) U U.heap) ∧
  True
theorem KK.step {E : EV} {s U : State} {H : Heap} {locs : List Loc} (h : KK E s) (hS : va_S (eR E) s.heap H locs) (hU : U.heap = H) (hW : s.WarmedH U.vm) : KK E U := by
  obtain ⟨h1, h2, ⟨h3, h4⟩, ⟨h5, h6⟩, -⟩ := h
  have hk := hS.2.1
  have ha := hW.alike
  unfold KK
  rw [hU]
  exact ⟨h1.moved ha, fun w hw => nest_warm (nestL_nest w hw) hW (h2 w hw), ⟨(h3.kept hk).moved ha, (h4.kept hk).moved ha⟩, ⟨(h5.kept hk).moved ha, (h6.kept hk).moved ha⟩, trivial⟩
theorem KK.calling {E : EV} {a : Array Value} {U : State} {g : JFrame} {mk : MethodId} (h : KK E U) : KK E (U.calling g mk a) := by
  obtain ⟨h1, h2, ⟨h3, h4⟩, ⟨h5, h6⟩, -⟩ := h
  have ha : U.vm.Alike (U.calling g mk a).vm := Vm.Alike.refl U.vm
  exact ⟨h1.moved ha, fun w hw => nest_same (u := U) (U := U.calling g mk a) (nestL_nest w hw) rfl (h2 w hw), ⟨h3.moved ha, h4.moved ha⟩, ⟨h5.moved ha, h6.moved ha⟩, trivial⟩
def Sw (E : EV) (u : SS) (H : Heap) : Prop := va_P (eD E) vwCl (wl E u) H ∧ va_D (eR E) (wl E u)
def Pre (E : EV) (u : SS) : State → Prop := fun U => Sw E u U.heap ∧ KK E U
def Iv (E : EV) (s : State) (H : Heap) (locs : List Loc) (u : SS) : Prop := Sw E u H ∧ va_S (eR E) s.heap H locs
/-- what a body leans on -/
def Fx (E : EV) (p : Program) (s : State) (m : MethodId) (args : Array Value) (meth : Method) (co : Code) (cc : ByteArray) (nL : Nat) (own : String) (ret : Option FieldType) : Prop :=
  p.tables.exec = Jvm.exec ∧ co.code = cc ∧ co.maxLocals = nL ∧ s.vm.findClass own = some m.cls ∧ (∀ w ∈ gW, w.before args s = true) ∧ KK E s ∧ meth.sig.returnType = ret ∧ meth.locks = false
theorem Pre.blind {E : EV} {u : SS} {av : List Value} : FrameBlind (va_Pc av (Pre E u)) := fun a U g mk q => ⟨q.1, q.2.1, q.2.2.calling⟩
abbrev Q_i {S : Type} (E : EV) (post : Int32 → S → Prop) (emb : S → SS) : Array Value → State → Outcome → State → Prop := va_Qi post (fun v t => Sw E (emb v) t.heap) (eR E)
abbrev Q_l {S : Type} (E : EV) (post : Int64 → S → Prop) (emb : S → SS) : Array Value → State → Outcome → State → Prop := va_Ql post (fun v t => Sw E (emb v) t.heap) (eR E)
abbrev Q_v {S : Type} (E : EV) (post : S → Prop) (emb : S → SS) : Array Value → State → Outcome → State → Prop := va_Qv post (fun v t => Sw E (emb v) t.heap) (eR E)
abbrev Q_q {S : Type} (E : EV) (post : Option Nat → S → Prop) (emb : S → SS) : Array Value → State → Outcome → State → Prop := va_Qq post (fun v t => Sw E (emb v) t.heap) (eR E)
/-- a contract: from the world u, with a method's end Qc, making nothing -/
abbrev CT (l : Launch) (y : MethodName) (cc : ByteArray) (maxL : Nat) (ret : Option FieldType) (rm : Room) (av : List Value) (E : EV) (u : SS) (Qc : Array Value → State → Outcome → State → Prop) : Prop :=
  Met l y (Cond.code y cc maxL ret :: gW) rm (va_Pc av (Pre E u)) Qc 0 0 (eR E)
abbrev Rm (f k : Nat) : Room := { frames := f, cells := 0, slots := 0, locals := k }
theorem mstart {l : Launch} {y : MethodName} {cc : ByteArray} {maxL : Nat} {ret : Option FieldType} {f k : Nat} {E : EV} {u : SS} {av : List Value} {Qc : Array Value → State → Outcome → State → Prop} (own : String) (hy : plainName y.cls = true) (ho : y.cls = own) (hn : (lg_sl av).length ≤ maxL)
    (body : ∀ (p : Program) (e : Env) (s : State) (m : MethodId) (args : Array Value) (below : List Frame) (meth : Method) (co : Code) (ls : Array Slot) (Q : State → Prop), MQ below Qc args s 0 0 (eR E) = Q → Fx E p s m args meth co cc maxL own ret → Iv E s s.heap [] u → lv_has ls maxL (lv_args 0 av) → W p l e (Rm f k) s m args below meth co s.heap [] 0 0 Q (F0 m 0 ls [])) : CT l y cc maxL ret (Rm f k) av E u Qc := by
  refine Met.ofW (cc := cc) (maxL := maxL) (ret := ret) hy rfl ?_
  intro p e s m args below meth c s₁ B hml hv
  obtain ⟨rfl, hSw, hK⟩ := hv
  have hts := atoms_spec (ws := Cond.code y cc maxL ret :: gW) B.pre
  have hown : s.vm.findClass y.cls = some m.cls := findClass_of_methodNamed B.named
  rw [lg_entry_eq]
  exact body p e s m _ below meth c _ _ rfl ⟨B.exec, B.bytes, hml, ho ▸ hown, fun w hw => hts w (List.mem_cons_of_mem _ hw), hK, B.returns, B.notSynchronized⟩ ⟨hSw, va_S.rf⟩ (lv_entry av hn)
section WR
variable {p : Program} {l : Launch} {e : Env} {R : Room} {s : State} {m : MethodId} {args : Array Value} {below : List Frame} {meth : Method} {co : Code} {H : Heap} {locs : List Loc} {cells slots : Nat} {Q : State → Prop}
variable {cc : ByteArray} {pc : Nat} {ls : Array Slot} {rest : List Value} {E : EV} {u : SS} {nL : Nat} {own : String} {ret : Option FieldType}
theorem rI {S : Type} {post : Int32 → S → Prop} {emb : S → SS} (hQ : MQ below (Q_i E post emb) args s cells slots (eR E) = Q) (F : Fx E p s m args meth co cc nL own (some .int)) {v : S} {r : Int32} (hI : Iv E s H locs (emb v)) (hdg : decode cc pc = .ok (.ireturn, 1)) (hp : post r v) : W p l e R s m args below meth co H locs cells slots Q (F0 m pc ls [.int r]) := by
  rw [← hQ]
  exact W.iret F.1 F.2.1 F.2.2.2.2.2.2.1 (fun t ht _ => ⟨⟨r, v, rfl, hp, by show Sw E _ t.heap; rw [ht]; exact hI.1⟩, hI.2.F ht⟩) hI.2.2.2 hdg F.2.2.2.2.2.2.2
theorem rZ {S : Type} {post : Int32 → S → Prop} {emb : S → SS} {ty : FieldType} (hQ : MQ below (Q_i E post emb) args s cells slots (eR E) = Q) (F : Fx E p s m args meth co cc nL own (some ty)) {v : S} {r : Int32} (hn : narrow ty (.int r) = .int r) (hI : Iv E s H locs (emb v)) (hdg : decode cc pc = .ok (.ireturn, 1)) (hp : post r v) : W p l e R s m args below meth co H locs cells slots Q (F0 m pc ls [.int r]) := by
  rw [← hQ]
  exact W.zret F.1 F.2.1 F.2.2.2.2.2.2.1 hn (fun t ht _ => ⟨⟨r, v, rfl, hp, by show Sw E _ t.heap; rw [ht]; exact hI.1⟩, hI.2.F ht⟩) hI.2.2.2 hdg F.2.2.2.2.2.2.2
theorem rL {S : Type} {post : Int64 → S → Prop} {emb : S → SS} (hQ : MQ below (Q_l E post emb) args s cells slots (eR E) = Q) (F : Fx E p s m args meth co cc nL own (some .long)) {v : S} {r : Int64} (hI : Iv E s H locs (emb v)) (hdg : decode cc pc = .ok (.lreturn, 1)) (hp : post r v) : W p l e R s m args below meth co H locs cells slots Q (F0 m pc ls [.long r]) := by
  rw [← hQ]
  exact W.lret F.1 F.2.1 F.2.2.2.2.2.2.1 (fun t ht _ => ⟨⟨r, v, rfl, hp, by show Sw E _ t.heap; rw [ht]; exact hI.1⟩, hI.2.F ht⟩) hI.2.2.2 hdg F.2.2.2.2.2.2.2
theorem rV {S : Type} {post : S → Prop} {emb : S → SS} (hQ : MQ below (Q_v E post emb) args s cells slots (eR E) = Q) (F : Fx E p s m args meth co cc nL own none) {v : S} (hI : Iv E s H locs (emb v)) (hdg : decode cc pc = .ok (.return_, 1)) (hp : post v) : W p l e R s m args below meth co H locs cells slots Q (F0 m pc ls []) := by
  rw [← hQ]
  exact W.vret F.1 F.2.1 F.2.2.2.2.2.2.1 (fun t ht _ => ⟨⟨v, rfl, hp, by show Sw E _ t.heap; rw [ht]; exact hI.1⟩, hI.2.F ht⟩) hI.2.2.2 hdg F.2.2.2.2.2.2.2
theorem rQ {S : Type} {post : Option Nat → S → Prop} {emb : S → SS} {nm : String} (hQ : MQ below (Q_q E post emb) args s cells slots (eR E) = Q) (F : Fx E p s m args meth co cc nL own (some (.object nm))) {v : S} {a : Nat} (hI : Iv E s H locs (emb v)) (hdg : decode cc pc = .ok (.areturn, 1)) (hp : post (some a) v) : W p l e R s m args below meth co H locs cells slots Q (F0 m pc ls [.ref a]) := by
  rw [← hQ]
  exact W.aret F.1 F.2.1 F.2.2.2.2.2.2.1 (Or.inl ⟨nm, rfl⟩) (Or.inr ⟨a, rfl⟩) (fun t ht _ => ⟨⟨some a, v, rfl, hp, by show Sw E _ t.heap; rw [ht]; exact hI.1⟩, hI.2.F ht⟩) hI.2.2.2 hdg F.2.2.2.2.2.2.2
def FLk (own : String) (idx : Nat) (ref n d : String) : Prop := Cond.fieldLink own idx ref n d ∈ gW ∨ ∃ host, Cond.fieldLinkNest own idx ref n d host ∈ nestL
theorem fG {C : String} {T : u_T} {N ci : Nat} {idx : Nat} {ref : String} (F : Fx E p s m args meth co cc nL own ret) (hI : Iv E s H locs u) (k : Nat) {a : Nat} {fs : List Value} (he : (wl E u)[k]? = some (a, .inr (ci, fs))) (hc : vwCl[ci]? = some (C, T, N)) (hin : ∀ w ∈ u_ws C T N, w ∈ gW) (j : Nat) (hj : j < N) (hL : FLk own idx ref (T j).2.1 (T j).2.2.1) (hs : (T j).1 = ref) {v : Value} (hv : fs[j]? = some v) (hdg : decode cc pc = .ok (.getfield idx, 3))
    (kk : W p l e R s m args below meth co H locs cells slots Q (F0 m (pc + 3) ls (v :: rest))) : W p l e R s m args below meth co H locs cells slots Q (F0 m pc ls (.ref a :: rest)) := by
  rcases hL with h | ⟨host, h⟩
  · exact va_get (ref := ref) F.1 F.2.1 F.2.2.2.2.1 hin F.2.2.2.1 F.2.2.2.2.2.1.1 hI.1.1 k he hc j hj (F.2.2.2.2.1 _ h) (fun x hx => by rw [← hs]; exact hx) hv hdg kk
  · exact va_getN (ref := ref) F.1 F.2.1 F.2.2.2.2.1 hin F.2.2.2.1 F.2.2.2.2.2.1.1 hI.1.1 k he hc j hj (nest_use (nestL_nest _ h) (F.2.2.2.2.2.1.2.1 _ h)) (fun x hx => by rw [← hs]; exact hx) hv hdg kk
theorem fP {C : String} {T : u_T} {N ci : Nat} {idx : Nat} {ref : String} (F : Fx E p s m args meth co cc nL own ret) (hI : Iv E s H locs u) (k : Nat) {a : Nat} {fs : List Value} (he : (wl E u)[k]? = some (a, .inr (ci, fs))) (hc : vwCl[ci]? = some (C, T, N)) (hin : ∀ w ∈ u_ws C T N, w ∈ gW) (ty0 : Nat → FieldType) (hty : ∀ k, k < N → parseFieldDescriptor (T k).2.2.1 = some (ty0 k)) (hnm : ∀ a, a < N → ∀ b, b < N → a ≠ b → (T a).2.1 ≠ (T b).2.1) (j : Nat) (hj : j < N) (hL : FLk own idx ref (T j).2.1 (T j).2.2.1) (hs : (T j).1 = ref) (hfin : (T j).2.2.2 = false) {v : Value} (hn : narrow (ty0 j) v = v) (hfit : fits (ty0 j) v = true) (hl : j < fs.length) {u' : SS} (hu : (wl E u).set k (a, .inr (ci, fs.set j v)) = wl E u') (hdg : decode cc pc = .ok (.putfield idx, 3))
    (kk : ∀ (H1 : Heap) (locs1 : List Loc), Iv E s H1 locs1 u' → W p l e R s m args below meth co H1 locs1 cells slots Q (F0 m (pc + 3) ls rest)) : W p l e R s m args below meth co H locs cells slots Q (F0 m pc ls (v :: .ref a :: rest)) := by
  have g : ∀ (H1 : Heap) (locs1 : List Loc), va_P (eD E) vwCl ((wl E u).set k (a, .inr (ci, fs.set j v))) H1 → va_D (eR E) ((wl E u).set k (a, .inr (ci, fs.set j v))) → va_S (eR E) s.heap H1 locs1 → W p l e R s m args below meth co H1 locs1 cells slots Q (F0 m (pc + 3) ls rest) := fun H1 locs1 h1 h2 h3 => by
    rw [hu] at h1 h2
    exact kk H1 locs1 ⟨⟨h1, h2⟩, h3⟩
  rcases hL with h | ⟨host, h⟩
  · exact va_put (ref := ref) F.1 F.2.1 F.2.2.2.2.1 hin ty0 hty hnm F.2.2.2.1 F.2.2.2.2.2.1.1 hI.1.1 hI.1.2 hI.2 k he hc j hj (F.2.2.2.2.1 _ h) (fun x hx => by rw [← hs]; exact hx) hfin (hty j hj) hn hfit hl hdg g
  · exact va_putN (ref := ref) F.1 F.2.1 F.2.2.2.2.1 hin ty0 hty hnm F.2.2.2.1 F.2.2.2.2.2.1.1 hI.1.1 hI.1.2 hI.2 k he hc j hj (nest_use (nestL_nest _ h) (F.2.2.2.2.2.1.2.1 _ h)) (fun x hx => by rw [← hs]; exact hx) hfin (hty j hj) hn hfit hl hdg g
/-- an int array is a region -/
def IsI (k r n : Nat) : Prop := ∀ (E : EV) (u : SS), (wl E u)[k]? = some (eA E k, .inl (eT E 0, n, .inl (u.1 r))) ∧ ∀ (i : Nat) (x : Int32), (wl E u).set k (eA E k, .inl (eT E 0, n, .inl (upd (u.1 r) i x))) = wl E (up u.1 r i x, u.2)
def IsL (k r : Nat) : Prop := ∀ (E : EV) (u : SS), (wl E u)[k]? = some (eA E k, .inl (eT E 2, 16, .inr (.inl (u.2 r)))) ∧ ∀ (i : Nat) (x : Int64), (wl E u).set k (eA E k, .inl (eT E 2, 16, .inr (.inl (vp_updL (u.2 r) i x)))) = wl E (u.1, upG u.2 r i x)
theorem nI_arr {i n : Nat} (h : i < n) (hn : n < 2 ^ 31) : vp_in (nI i) n ∧ (nI i).toNatClampNeg = i := ⟨vp_in_nI h hn, nI_clamp (by omega)⟩
theorem aIl {k r n : Nat} (F : Fx E p s m args meth co cc nL own ret) (hI : Iv E s H locs u) (h : IsI k r n) {i : Int32} (hin : vp_in i n) (hdg : decode cc pc = .ok (.iaload, 1))
    (kk : W p l e R s m args below meth co H locs cells slots Q (F0 m (pc + 1) ls (.int (u.1 r i.toNatClampNeg) :: rest))) : W p l e R s m args below meth co H locs cells slots Q (F0 m pc ls (.int i :: .ref (eA E k) :: rest)) :=
  va_iald F.1 F.2.1 F.2.2.2.2.2.1.1 hI.1.1 k 0 (h E u).1 rfl hin hdg kk
theorem aIlN {k r n : Nat} (F : Fx E p s m args meth co cc nL own ret) (hI : Iv E s H locs u) (h : IsI k r n) {i : Nat} (hin : i < n) (hn : n < 2 ^ 31) (hdg : decode cc pc = .ok (.iaload, 1))
    (kk : W p l e R s m args below meth co H locs cells slots Q (F0 m (pc + 1) ls (.int (u.1 r i) :: rest))) : W p l e R s m args below meth co H locs cells slots Q (F0 m pc ls (.int (nI i) :: .ref (eA E k) :: rest)) :=
  aIl F hI h (nI_arr hin hn).1 hdg (by rw [(nI_arr hin hn).2]; exact kk)
theorem aIs {k r n : Nat} (F : Fx E p s m args meth co cc nL own ret) (hI : Iv E s H locs u) (h : IsI k r n) {i x : Int32} (hin : vp_in i n) (hdg : decode cc pc = .ok (.iastore, 1))
    (kk : ∀ (H1 : Heap) (locs1 : List Loc), Iv E s H1 locs1 (up u.1 r i.toNatClampNeg x, u.2) → W p l e R s m args below meth co H1 locs1 cells slots Q (F0 m (pc + 1) ls rest)) : W p l e R s m args below meth co H locs cells slots Q (F0 m pc ls (.int x :: .int i :: .ref (eA E k) :: rest)) :=
  va_iast F.1 F.2.1 F.2.2.2.2.2.1.1 hI.1.1 hI.1.2 hI.2 k 0 (h E u).1 rfl hin hdg (fun H1 locs1 h1 h2 h3 => by
    rw [(h E u).2] at h1 h2
    exact kk H1 locs1 ⟨⟨h1, h2⟩, h3⟩)
theorem aIsN {k r n : Nat} (F : Fx E p s m args meth co cc nL own ret) (hI : Iv E s H locs u) (h : IsI k r n) {i : Nat} {x : Int32} (hin : i < n) (hn : n < 2 ^ 31) (hdg : decode cc pc = .ok (.iastore, 1))
    (kk : ∀ (H1 : Heap) (locs1 : List Loc), Iv E s H1 locs1 (up u.1 r i x, u.2) → W p l e R s m args below meth co H1 locs1 cells slots Q (F0 m (pc + 1) ls rest)) : W p l e R s m args below meth co H locs cells slots Q (F0 m pc ls (.int x :: .int (nI i) :: .ref (eA E k) :: rest)) :=
  aIs F hI h (nI_arr hin hn).1 hdg (fun H1 locs1 h1 => kk H1 locs1 (by rw [(nI_arr hin hn).2] at h1; exact h1))
theorem aIn {k r n : Nat} (F : Fx E p s m args meth co cc nL own ret) (hI : Iv E s H locs u) (h : IsI k r n) (hdg : decode cc pc = .ok (.arraylength, 1))
    (kk : W p l e R s m args below meth co H locs cells slots Q (F0 m (pc + 1) ls (.int (nI n) :: rest))) : W p l e R s m args below meth co H locs cells slots Q (F0 m pc ls (.ref (eA E k) :: rest)) :=
  va_alen F.1 F.2.1 F.2.2.2.2.2.1.1 hI.1.1 k 0 (h E u).1 rfl rfl hdg kk
theorem aLlN {k r : Nat} (F : Fx E p s m args meth co cc nL own ret) (hI : Iv E s H locs u) (h : IsL k r) {i : Nat} (hin : i < 16) (hdg : decode cc pc = .ok (.laload, 1))
    (kk : W p l e R s m args below meth co H locs cells slots Q (F0 m (pc + 1) ls (.long (u.2 r i) :: rest))) : W p l e R s m args below meth co H locs cells slots Q (F0 m pc ls (.int (nI i) :: .ref (eA E k) :: rest)) :=
  va_lald F.1 F.2.1 F.2.2.2.2.2.1.1 hI.1.1 k 2 (h E u).1 rfl (nI_arr hin (by decide)).1 hdg (by rw [(nI_arr hin (by decide)).2]; exact kk)
theorem aLsN {k r : Nat} (F : Fx E p s m args meth co cc nL own ret) (hI : Iv E s H locs u) (h : IsL k r) {i : Nat} {x : Int64} (hin : i < 16) (hdg : decode cc pc = .ok (.lastore, 1))
    (kk : ∀ (H1 : Heap) (locs1 : List Loc), Iv E s H1 locs1 (u.1, upG u.2 r i x) → W p l e R s m args below meth co H1 locs1 cells slots Q (F0 m (pc + 1) ls rest)) : W p l e R s m args below meth co H locs cells slots Q (F0 m pc ls (.long x :: .int (nI i) :: .ref (eA E k) :: rest)) :=
  va_last F.1 F.2.1 F.2.2.2.2.2.1.1 hI.1.1 hI.1.2 hI.2 k 2 (h E u).1 rfl (nI_arr hin (by decide)).1 hdg (fun H1 locs1 h1 h2 h3 => by
    rw [(nI_arr hin (by decide)).2, (h E u).2] at h1 h2
    exact kk H1 locs1 ⟨⟨h1, h2⟩, h3⟩)
theorem aLn {k r : Nat} (F : Fx E p s m args meth co cc nL own ret) (hI : Iv E s H locs u) (h : IsL k r) (hdg : decode cc pc = .ok (.arraylength, 1))
    (kk : W p l e R s m args below meth co H locs cells slots Q (F0 m (pc + 1) ls (.int (nI 16) :: rest))) : W p l e R s m args below meth co H locs cells slots Q (F0 m pc ls (.ref (eA E k) :: rest)) :=
  va_alen F.1 F.2.1 F.2.2.2.2.2.1.1 hI.1.1 k 2 (h E u).1 rfl rfl hdg kk
/-- the text's characters -/
theorem aCl (F : Fx E p s m args meth co cc nL own ret) (hI : Iv E s H locs u) {i : Nat} (hin : i < 80) (hdg : decode cc pc = .ok (.caload, 1))
    (kk : W p l e R s m args below meth co H locs cells slots Q (F0 m (pc + 1) ls (.int (u.1 6 i) :: rest))) : W p l e R s m args below meth co H locs cells slots Q (F0 m pc ls (.int (nI i) :: .ref (eA E 4) :: rest)) :=
  va_cald F.1 F.2.1 F.2.2.2.2.2.1.1 hI.1.1 4 1 (show (wl E u)[4]? = some (eA E 4, .inl (eT E 1, 80, .inl (u.1 6))) from rfl) rfl (nI_arr hin (by decide)).1 hdg (by rw [(nI_arr hin (by decide)).2]; exact kk)
theorem set_c (E : EV) (u : SS) (i : Nat) (x : Int32) : (wl E u).set 4 (eA E 4, .inl (eT E 1, 80, .inl (upd (u.1 6) i x))) = wl E (up u.1 6 i x, u.2) := rfl
theorem aCs (F : Fx E p s m args meth co cc nL own ret) (hI : Iv E s H locs u) {i : Nat} {x : Int32} (hx : vp_nar .char x = x) (hin : i < 80) (hdg : decode cc pc = .ok (.castore, 1))
    (kk : ∀ (H1 : Heap) (locs1 : List Loc), Iv E s H1 locs1 (up u.1 6 i x, u.2) → W p l e R s m args below meth co H1 locs1 cells slots Q (F0 m (pc + 1) ls rest)) : W p l e R s m args below meth co H locs cells slots Q (F0 m pc ls (.int x :: .int (nI i) :: .ref (eA E 4) :: rest)) :=
  va_cast F.1 F.2.1 F.2.2.2.2.2.1.1 hI.1.1 hI.1.2 hI.2 4 1 (show (wl E u)[4]? = some (eA E 4, .inl (eT E 1, 80, .inl (u.1 6))) from rfl) rfl (nI_arr hin (by decide)).1 hdg (fun H1 locs1 h1 h2 h3 => by
    rw [(nI_arr hin (by decide)).2, hx, set_c] at h1 h2
    exact kk H1 locs1 ⟨⟨h1, h2⟩, h3⟩)
theorem aCn (F : Fx E p s m args meth co cc nL own ret) (hI : Iv E s H locs u) (hdg : decode cc pc = .ok (.arraylength, 1))
    (kk : W p l e R s m args below meth co H locs cells slots Q (F0 m (pc + 1) ls (.int (nI 80) :: rest))) : W p l e R s m args below meth co H locs cells slots Q (F0 m pc ls (.ref (eA E 4) :: rest)) :=
  va_alen F.1 F.2.1 F.2.2.2.2.2.1.1 hI.1.1 4 1 (show (wl E u)[4]? = some (eA E 4, .inl (eT E 1, 80, .inl (u.1 6))) from rfl) rfl rfl hdg kk
/-- the states' row, the streams' row of rows -/
theorem aSl (F : Fx E p s m args meth co cc nL own ret) (hI : Iv E s H locs u) {i : Nat} (hin : i < 4) (hdg : decode cc pc = .ok (.aaload, 1))
    (kk : W p l e R s m args below meth co H locs cells slots Q (F0 m (pc + 1) ls (.ref (eA E (19 + 3 * i)) :: rest))) : W p l e R s m args below meth co H locs cells slots Q (F0 m pc ls (.int (nI i) :: .ref (eA E 2) :: rest)) :=
  va_aldq F.1 F.2.1 F.2.2.2.2.2.1.1 hI.1.1 2 3 (show (wl E u)[2]? = some (eA E 2, .inl (eT E 3, 4, .inr (.inr (.inr (.inr (fun i => some (eA E (19 + 3 * i)))))))) from rfl) rfl (nI_arr hin (by decide)).1 hdg (by rw [(nI_arr hin (by decide)).2]; exact kk)
theorem aSn (F : Fx E p s m args meth co cc nL own ret) (hI : Iv E s H locs u) (hdg : decode cc pc = .ok (.arraylength, 1))
    (kk : W p l e R s m args below meth co H locs cells slots Q (F0 m (pc + 1) ls (.int (nI 4) :: rest))) : W p l e R s m args below meth co H locs cells slots Q (F0 m pc ls (.ref (eA E 2) :: rest)) :=
  va_alen F.1 F.2.1 F.2.2.2.2.2.1.1 hI.1.1 2 3 (show (wl E u)[2]? = some (eA E 2, .inl (eT E 3, 4, .inr (.inr (.inr (.inr (fun i => some (eA E (19 + 3 * i)))))))) from rfl) rfl rfl hdg kk
theorem aRn (F : Fx E p s m args meth co cc nL own ret) (hI : Iv E s H locs u) (hdg : decode cc pc = .ok (.arraylength, 1))
    (kk : W p l e R s m args below meth co H locs cells slots Q (F0 m (pc + 1) ls (.int (nI 16) :: rest))) : W p l e R s m args below meth co H locs cells slots Q (F0 m pc ls (.ref (eA E 31) :: rest)) :=
  va_alen F.1 F.2.1 F.2.2.2.2.2.1.1 hI.1.1 31 4 (show (wl E u)[31]? = some (eA E 31, .inl (eT E 4, 16, .inr (.inr (.inr (.inr (fun i => some (eA E (32 + i)))))))) from rfl) rfl rfl hdg kk
theorem aRl (F : Fx E p s m args meth co cc nL own ret) (hI : Iv E s H locs u) {i : Nat} (hin : i < 16) (hdg : decode cc pc = .ok (.aaload, 1))
    (kk : W p l e R s m args below meth co H locs cells slots Q (F0 m (pc + 1) ls (.ref (eA E (32 + i)) :: rest))) : W p l e R s m args below meth co H locs cells slots Q (F0 m pc ls (.int (nI i) :: .ref (eA E 31) :: rest)) := by
  have hv : vp_in (nI i) 16 ∧ (nI i).toNatClampNeg = i := nI_arr hin (by decide)
  exact W.aald (v := .ref (eA E (32 + i))) (ty := .array .long) F.1 F.2.1 (hI.1.1 31 _ (show (wl E u)[31]? = some (eA E 31, .inl (eT E 4, 16, .inr (.inr (.inr (.inr (fun i => some (eA E (32 + i)))))))) from rfl)) ((F.2.2.2.2.2.1.1.2 4 _ rfl).1 16 (fun j => va_rf (some (eA E (32 + j))))) rfl (fun q => by cases q) (by show ¬ (nI i < 0 ∨ (arrV _ _ _).slots.size ≤ _); rw [arrV_size]; exact hv.1) (by show (arrV _ _ _).slots[_]? = _; rw [hv.2, arrV_read _ _ hin]; rfl) rfl rfl hdg kk
end WR
