/-! two objects side by side: each its own world, in regions that are apart -/
theorem va_Z.less {C n d : String} {v : Value} {A A' : Nat → Prop} {U : State} {H : Heap} (hA : ∀ q, A' q → A q) (h : va_Z C n d v A U H) : va_Z C n d v A' U H := by
  obtain ⟨cf, kf, fi, f, a, cell, h1, h2, h3, h4, h5, h6, h7, h8⟩ := h
  exact ⟨cf, kf, fi, f, a, cell, h1, h2, h3, h4, h5, h6, h7, fun q => h8 (hA _ q)⟩
theorem va_T.less {ty : FieldType} {t N : Nat} {f : Nat → Value} {A A' : Nat → Prop} {U : State} {H : Heap} (hA : ∀ q, A' q → A q) (h : va_T ty t N f A U H) : va_T ty t N f A' U H := by
  obtain ⟨cell, h1, h2, h3, h4, h5, h6, h7⟩ := h
  exact ⟨cell, h1, h2, h3, h4, h5, h6, fun q => h7 (hA _ q)⟩
/-- E1 and E2 are two objects' environments under E0 -/
def Und (E0 E1 : EV) : Prop := eD E1 = eD E0 ∧ eT E1 = eT E0 ∧ eS E1 = eS E0 ∧ ∀ q, eR E1 q → eR E0 q
def Two (E0 E1 E2 : EV) : Prop := Und E0 E1 ∧ Und E0 E2 ∧ ∀ q, eR E1 q → ¬ eR E2 q
theorem KK.und {E0 E1 : EV} {U : State} (h : KK E0 U) (hT : Und E0 E1) : KK E1 U := by
  obtain ⟨h1, h2, ⟨h3, h4⟩, ⟨h5, h6⟩, -⟩ := h
  obtain ⟨t1, t2, t3, t4⟩ := hT
  unfold KK tysL
  rw [t1, t2, t3]
  exact ⟨h1, h2, ⟨h3.less t4, h4.less t4⟩, ⟨h5.less t4, h6.less t4⟩, trivial⟩
theorem Sw.kept {E1 E2 : EV} {u : SS} {H H1 : Heap} (hD : eD E1 = eD E2) (h : Sw E2 u H) (ha : ∀ q, eR E2 q → ¬ eR E1 q) (hk : ∀ q : Nat, q < H.size → ¬ eR E1 q → H1[q]? = H[q]?) : Sw E2 u H1 :=
  ⟨fun k q hq => (h.1 k q hq).kept (hk q.1 (h.1 k q hq).lt (ha q.1 (h.2.2 k q hq))), h.2⟩
def Iv2 (E0 E1 E2 : EV) (s : State) (H : Heap) (locs : List Loc) (u v : SS) : Prop := (Sw E1 u H ∧ Sw E2 v H) ∧ va_S (eR E0) s.heap H locs
def Pre2 (E0 E1 E2 : EV) (u v : SS) : State → Prop := fun U => Sw E1 u U.heap ∧ Sw E2 v U.heap ∧ KK E0 U
theorem Pre2.blind {E0 E1 E2 : EV} {u v : SS} {av : List Value} : FrameBlind (va_Pc av (Pre2 E0 E1 E2 u v)) := fun a U g mk q => ⟨q.1, q.2.1, q.2.2.1, q.2.2.2.calling⟩
abbrev Q2 (E0 E1 E2 : EV) (post : Int32 → SS × SS → Prop) : Array Value → State → Outcome → State → Prop := va_Qi post (fun w t => Sw E1 w.1 t.heap ∧ Sw E2 w.2 t.heap) (eR E0)
/-- a contract over two objects -/
abbrev CT2 (l : Launch) (y : MethodName) (cc : ByteArray) (maxL : Nat) (ret : Option FieldType) (rm : Room) (av : List Value) (E0 E1 E2 : EV) (u v : SS) (post : Int32 → SS × SS → Prop) : Prop :=
  Met l y (Cond.code y cc maxL ret :: gW) rm (va_Pc av (Pre2 E0 E1 E2 u v)) (Q2 E0 E1 E2 post) 0 0 (eR E0)
theorem mstart2 {l : Launch} {y : MethodName} {cc : ByteArray} {maxL : Nat} {ret : Option FieldType} {f k : Nat} {E0 E1 E2 : EV} {u v : SS} {av : List Value} {post : Int32 → SS × SS → Prop} (own : String) (hy : plainName y.cls = true) (ho : y.cls = own) (hn : (lg_sl av).length ≤ maxL)
    (body : ∀ (p : Program) (e : Env) (s : State) (m : MethodId) (args : Array Value) (below : List Frame) (meth : Method) (co : Code) (ls : Array Slot) (Q : State → Prop), MQ below (Q2 E0 E1 E2 post) args s 0 0 (eR E0) = Q → Fx E0 p s m args meth co cc maxL own ret → Iv2 E0 E1 E2 s s.heap [] u v → lv_has ls maxL (lv_args 0 av) → W p l e (Rm f k) s m args below meth co s.heap [] 0 0 Q (F0 m 0 ls [])) : CT2 l y cc maxL ret (Rm f k) av E0 E1 E2 u v post := by
  refine Met.ofW (cc := cc) (maxL := maxL) (ret := ret) hy rfl ?_
  intro p e s m args below meth c s₁ B hml hv
  obtain ⟨rfl, hS1, hS2, hK⟩ := hv
  have hts := atoms_spec (ws := Cond.code y cc maxL ret :: gW) B.pre
  have hown : s.vm.findClass y.cls = some m.cls := findClass_of_methodNamed B.named
  rw [lg_entry_eq]
  exact body p e s m _ below meth c _ _ rfl ⟨B.exec, B.bytes, hml, ho ▸ hown, fun w hw => hts w (List.mem_cons_of_mem _ hw), hK, B.returns, B.notSynchronized⟩ ⟨⟨hS1, hS2⟩, va_S.rf⟩ (lv_entry av hn)
section W2
variable {p : Program} {l : Launch} {e : Env} {R : Room} {s : State} {m : MethodId} {args : Array Value} {below : List Frame} {meth : Method} {co : Code} {H : Heap} {locs : List Loc} {cells slots : Nat} {Q : State → Prop}
variable {cc : ByteArray} {pc : Nat} {ls : Array Slot} {rest st : List Value} {E0 E1 E2 : EV} {u w : SS} {nL : Nat} {own : String} {ret : Option FieldType}
theorem rZ2 {post : Int32 → SS × SS → Prop} {ty : FieldType} (hQ : MQ below (Q2 E0 E1 E2 post) args s cells slots (eR E0) = Q) (F : Fx E0 p s m args meth co cc nL own (some ty)) {r : Int32} (hn : narrow ty (.int r) = .int r) (hI : Iv2 E0 E1 E2 s H locs u w) (hdg : decode cc pc = .ok (.ireturn, 1)) (hp : post r (u, w)) : W p l e R s m args below meth co H locs cells slots Q (F0 m pc ls [.int r]) := by
  rw [← hQ]
  exact W.zret F.1 F.2.1 F.2.2.2.2.2.2.1 hn (fun t ht _ => ⟨⟨r, (u, w), rfl, hp, by show Sw E1 _ t.heap ∧ Sw E2 _ t.heap; rw [ht]; exact hI.1⟩, hI.2.F ht⟩) hI.2.2.2 hdg F.2.2.2.2.2.2.2
theorem Iv2.kk {U : State} (hI : Iv2 E0 E1 E2 s H locs u w) (F : Fx E0 p s m args meth co cc nL own ret) (hU : U.heap = H) (hW : s.WarmedH U.vm) : KK E0 U := F.2.2.2.2.2.1.step hI.2 hU hW
theorem rX5a (F : Fx E0 p s m args meth co cc nL own ret) (hT : Two E0 E1 E2) (hI : Iv2 E0 E1 E2 s H locs u w) : ∃ cell : Cell, H[eA E1 0]? = some cell ∧ cell.vm.isStatics = false ∧ s.vm.findClass RX5 = some cell.cls := va_recv (F.2.2.2.2.2.1.und hT.1).1 hI.1.1.1 (ci := 5) (q := (RX5, TX5, 8)) rfl (wX5 E1 u)
theorem rX5b (F : Fx E0 p s m args meth co cc nL own ret) (hT : Two E0 E1 E2) (hI : Iv2 E0 E1 E2 s H locs u w) : ∃ cell : Cell, H[eA E2 0]? = some cell ∧ cell.vm.isStatics = false ∧ s.vm.findClass RX5 = some cell.cls := va_recv (F.2.2.2.2.2.1.und hT.2.1).1 hI.1.2.1 (ci := 5) (q := (RX5, TX5, 8)) rfl (wX5 E2 w)
theorem xVa {As : List Value} {b : Nat} {C : String} {y : MethodName} {bytes : ByteArray} {maxL n idx f k : Nat} {ret' : Option FieldType} {Qc : Array Value → State → Outcome → State → Prop} {lv : List (Nat × Value)} (F : Fx E0 p s m args meth co cc nL own ret) (hT : Two E0 E1 E2) (hI : Iv2 E0 E1 E2 s H locs u w) (hl : lv_has ls nL lv) (hM : CT l y bytes maxL ret' (Rm f k) (.ref b :: As) E1 u Qc) (hL : LkV own idx C y bytes maxL ret' n) (hr : ∃ cell : Cell, H[b]? = some cell ∧ cell.vm.isStatics = false ∧ s.vm.findClass C = some cell.cls) (hn : As.length = n) (hR : f + 1 ≤ R.frames ∧ 8 + (maxL + 11) + k ≤ R.locals) (hf : cells ≤ R.cells ∧ slots ≤ R.slots) (hst : st = As.reverse ++ .ref b :: rest) (hW : (rest.map fun v => v.category).sum ≤ 8) (hdg : decode cc pc = .ok (.invokevirtual idx, 3)) :
    va_Run p l e R s m args below meth co H locs cells slots 0 0 (F0 m pc ls st) rest (Qc (Value.ref b :: As).toArray) (eR E1) := by
  obtain ⟨⟨hl1, h2, h3, h4, h5, h6⟩, h7, h8⟩ := hL
  have ht := F.2.2.2.2.1
  have hp : PreV s H C b (va_Pc (.ref b :: As) (Pre E1 u)) As := ⟨Pre.blind, hr, fun U hU hW => ⟨rfl, by rw [hU]; exact hI.1.1, (hI.kk F hU hW).und hT.1⟩⟩
  rcases hl1 with h1 | ⟨host, h1⟩
  · exact va_runV ⟨F.1, F.2.1, F.2.2.1, F.2.2.2.1, ht⟩ hM ⟨callB_of n ht (gW_in h3) rfl rfl rfl (ht _ h2) (ht _ h1) ⟨h4, h5, h6⟩ hR, ht _ h7, ht _ h8⟩ hp rfl hn hl.1 hst (lv_room hW) hdg hf
  · exact va_runVN ⟨F.1, F.2.1, F.2.2.1, F.2.2.2.1, ht⟩ hM ⟨va_cnB n ht (gW_in h3) rfl rfl rfl (F.2.2.2.2.2.1.2.1 _ h1) (ht _ h2) ⟨h4, h5, h6⟩ hR, ht _ h7, ht _ h8⟩ hp rfl hn hl.1 hst (lv_room hW) hdg hf
theorem xVb {As : List Value} {b : Nat} {C : String} {y : MethodName} {bytes : ByteArray} {maxL n idx f k : Nat} {ret' : Option FieldType} {Qc : Array Value → State → Outcome → State → Prop} {lv : List (Nat × Value)} (F : Fx E0 p s m args meth co cc nL own ret) (hT : Two E0 E1 E2) (hI : Iv2 E0 E1 E2 s H locs u w) (hl : lv_has ls nL lv) (hM : CT l y bytes maxL ret' (Rm f k) (.ref b :: As) E2 w Qc) (hL : LkV own idx C y bytes maxL ret' n) (hr : ∃ cell : Cell, H[b]? = some cell ∧ cell.vm.isStatics = false ∧ s.vm.findClass C = some cell.cls) (hn : As.length = n) (hR : f + 1 ≤ R.frames ∧ 8 + (maxL + 11) + k ≤ R.locals) (hf : cells ≤ R.cells ∧ slots ≤ R.slots) (hst : st = As.reverse ++ .ref b :: rest) (hW : (rest.map fun v => v.category).sum ≤ 8) (hdg : decode cc pc = .ok (.invokevirtual idx, 3)) :
    va_Run p l e R s m args below meth co H locs cells slots 0 0 (F0 m pc ls st) rest (Qc (Value.ref b :: As).toArray) (eR E2) := by
  obtain ⟨⟨hl1, h2, h3, h4, h5, h6⟩, h7, h8⟩ := hL
  have ht := F.2.2.2.2.1
  have hp : PreV s H C b (va_Pc (.ref b :: As) (Pre E2 w)) As := ⟨Pre.blind, hr, fun U hU hW => ⟨rfl, by rw [hU]; exact hI.1.2, (hI.kk F hU hW).und hT.2.1⟩⟩
  rcases hl1 with h1 | ⟨host, h1⟩
  · exact va_runV ⟨F.1, F.2.1, F.2.2.1, F.2.2.2.1, ht⟩ hM ⟨callB_of n ht (gW_in h3) rfl rfl rfl (ht _ h2) (ht _ h1) ⟨h4, h5, h6⟩ hR, ht _ h7, ht _ h8⟩ hp rfl hn hl.1 hst (lv_room hW) hdg hf
  · exact va_runVN ⟨F.1, F.2.1, F.2.2.1, F.2.2.2.1, ht⟩ hM ⟨va_cnB n ht (gW_in h3) rfl rfl rfl (F.2.2.2.2.2.1.2.1 _ h1) (ht _ h2) ⟨h4, h5, h6⟩ hR, ht _ h7, ht _ h8⟩ hp rfl hn hl.1 hst (lv_room hW) hdg hf
/-- a static method over the first object alone -/
theorem xSa {As : List Value} {y : MethodName} {bytes : ByteArray} {maxL n idx f k : Nat} {ret' : Option FieldType} {Qc : Array Value → State → Outcome → State → Prop} {lv : List (Nat × Value)} (F : Fx E0 p s m args meth co cc nL own ret) (hT : Two E0 E1 E2) (hI : Iv2 E0 E1 E2 s H locs u w) (hl : lv_has ls nL lv) (hM : CT l y bytes maxL ret' (Rm f k) As E1 u Qc) (hL : LkS own idx y bytes maxL ret' n) (hn : As.length = n) (hR : f + 1 ≤ R.frames ∧ 8 + (maxL + 11) + k ≤ R.locals) (hf : cells ≤ R.cells ∧ slots ≤ R.slots) (hst : st = As.reverse ++ rest) (hW : (rest.map fun v => v.category).sum ≤ 8) (hdg : decode cc pc = .ok (.invokestatic idx, 3)) :
    va_Run p l e R s m args below meth co H locs cells slots 0 0 (F0 m pc ls st) rest (Qc As.toArray) (eR E1) := by
  obtain ⟨⟨hl1, h2, h3, h4, h5, h6⟩, h7⟩ := hL
  have ht := F.2.2.2.2.1
  have hp : PreS s H (va_Pc As (Pre E1 u)) As := ⟨Pre.blind, fun U hU hW => ⟨rfl, by rw [hU]; exact hI.1.1, (hI.kk F hU hW).und hT.1⟩⟩
  rcases hl1 with h1 | ⟨host, h1⟩
  · exact va_runS ⟨F.1, F.2.1, F.2.2.1, F.2.2.2.1, ht⟩ hM ⟨callB_of n ht (gW_in h3) rfl rfl rfl (ht _ h2) (ht _ h1) ⟨h4, h5, h6⟩ hR, ht _ h7⟩ hp rfl hn hl.1 hst (lv_room hW) hdg hf
  · exact va_runSN ⟨F.1, F.2.1, F.2.2.1, F.2.2.2.1, ht⟩ hM ⟨va_cnB n ht (gW_in h3) rfl rfl rfl (F.2.2.2.2.2.1.2.1 _ h1) (ht _ h2) ⟨h4, h5, h6⟩ hR, ht _ h7, trivial⟩ hp rfl hn hl.1 hst (lv_room hW) hdg hf
/-- a static method over both -/
theorem xS2 {As : List Value} {y : MethodName} {bytes : ByteArray} {maxL n idx f k : Nat} {ret' : Option FieldType} {post : Int32 → SS × SS → Prop} {lv : List (Nat × Value)} (F : Fx E0 p s m args meth co cc nL own ret) (hI : Iv2 E0 E1 E2 s H locs u w) (hl : lv_has ls nL lv) (hM : CT2 l y bytes maxL ret' (Rm f k) As E0 E1 E2 u w post) (hL : LkS own idx y bytes maxL ret' n) (hn : As.length = n) (hR : f + 1 ≤ R.frames ∧ 8 + (maxL + 11) + k ≤ R.locals) (hf : cells ≤ R.cells ∧ slots ≤ R.slots) (hst : st = As.reverse ++ rest) (hW : (rest.map fun v => v.category).sum ≤ 8) (hdg : decode cc pc = .ok (.invokestatic idx, 3)) :
    va_Run p l e R s m args below meth co H locs cells slots 0 0 (F0 m pc ls st) rest (Q2 E0 E1 E2 post As.toArray) (eR E0) := by
  obtain ⟨⟨hl1, h2, h3, h4, h5, h6⟩, h7⟩ := hL
  have ht := F.2.2.2.2.1
  have hp : PreS s H (va_Pc As (Pre2 E0 E1 E2 u w)) As := ⟨Pre2.blind, fun U hU hW => ⟨rfl, by rw [hU]; exact hI.1.1, by rw [hU]; exact hI.1.2, hI.kk F hU hW⟩⟩
  rcases hl1 with h1 | ⟨host, h1⟩
  · exact va_runS ⟨F.1, F.2.1, F.2.2.1, F.2.2.2.1, ht⟩ hM ⟨callB_of n ht (gW_in h3) rfl rfl rfl (ht _ h2) (ht _ h1) ⟨h4, h5, h6⟩ hR, ht _ h7⟩ hp rfl hn hl.1 hst (lv_room hW) hdg hf
  · exact va_runSN ⟨F.1, F.2.1, F.2.2.1, F.2.2.2.1, ht⟩ hM ⟨va_cnB n ht (gW_in h3) rfl rfl rfl (F.2.2.2.2.2.1.2.1 _ h1) (ht _ h2) ⟨h4, h5, h6⟩ hR, ht _ h7, trivial⟩ hp rfl hn hl.1 hst (lv_room hW) hdg hf
theorem za {S : Type} {post : Int32 → S → Prop} {emb : S → SS} {a : Array Value} (hT : Two E0 E1 E2) (hI : Iv2 E0 E1 E2 s H locs u w) (hr : va_Run p l e R s m args below meth co H locs cells slots 0 0 (F0 m pc ls st) rest (Q_i E1 post emb a) (eR E1)) (kk : ∀ (r : Int32) (v : S) (H1 : Heap) (locs1 : List Loc), Iv2 E0 E1 E2 s H1 locs1 (emb v) w → post r v → W p l e R s m args below meth co H1 locs1 cells slots Q (F0 m (pc + 3) ls (.int r :: rest))) : W p l e R s m args below meth co H locs cells slots Q (F0 m pc ls st) :=
  va_calli hr hI.2 (fun q _ h => hT.1.2.2.2 q h) (fun q h => hT.1.2.2.2 q h) (fun r v t H1 locs1 ht _ hp hB _ hk hS => kk r v H1 locs1 ⟨⟨by rw [← ht]; exact hB, hI.1.2.kept (hT.1.1.trans hT.2.1.1.symm) (fun q h2 h1 => hT.2.2 q h1 h2) hk⟩, hS⟩ hp)
theorem zb {S : Type} {post : Int32 → S → Prop} {emb : S → SS} {a : Array Value} (hT : Two E0 E1 E2) (hI : Iv2 E0 E1 E2 s H locs u w) (hr : va_Run p l e R s m args below meth co H locs cells slots 0 0 (F0 m pc ls st) rest (Q_i E2 post emb a) (eR E2)) (kk : ∀ (r : Int32) (v : S) (H1 : Heap) (locs1 : List Loc), Iv2 E0 E1 E2 s H1 locs1 u (emb v) → post r v → W p l e R s m args below meth co H1 locs1 cells slots Q (F0 m (pc + 3) ls (.int r :: rest))) : W p l e R s m args below meth co H locs cells slots Q (F0 m pc ls st) :=
  va_calli hr hI.2 (fun q _ h => hT.2.1.2.2.2 q h) (fun q h => hT.2.1.2.2.2 q h) (fun r v t H1 locs1 ht _ hp hB _ hk hS => kk r v H1 locs1 ⟨⟨hI.1.1.kept (hT.2.1.1.trans hT.1.1.symm) (fun q h1 h2 => hT.2.2 q h1 h2) hk, by rw [← ht]; exact hB⟩, hS⟩ hp)
theorem z2 {post : Int32 → SS × SS → Prop} {a : Array Value} (hI : Iv2 E0 E1 E2 s H locs u w) (hr : va_Run p l e R s m args below meth co H locs cells slots 0 0 (F0 m pc ls st) rest (Q2 E0 E1 E2 post a) (eR E0)) (kk : ∀ (r : Int32) (u1 w1 : SS) (H1 : Heap) (locs1 : List Loc), Iv2 E0 E1 E2 s H1 locs1 u1 w1 → post r (u1, w1) → W p l e R s m args below meth co H1 locs1 cells slots Q (F0 m (pc + 3) ls (.int r :: rest))) : W p l e R s m args below meth co H locs cells slots Q (F0 m pc ls st) :=
  va_calli hr hI.2 (fun _ _ h => h) (fun _ h => h) (fun r v t H1 locs1 ht _ hp hB _ _ hS => kk r v.1 v.2 H1 locs1 ⟨⟨by rw [← ht]; exact hB.1, by rw [← ht]; exact hB.2⟩, hS⟩ hp)
end W2
