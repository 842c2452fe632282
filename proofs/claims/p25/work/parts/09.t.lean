section TV
variable {p : Program} {l : Launch} {e : Env} {R : Room} {s : State} {m : MethodId} {args : Array Value} {below : List Frame} {meth : Method} {co : Code} {H : Heap} {locs : List Loc} {cells slots : Nat} {Q : State → Prop} {pc : Nat} {ls : Array Slot} {rest : List Value}
theorem tV {v w : Value} (h : v = w) (k : W p l e R s m args below meth co H locs cells slots Q (F0 m pc ls (w :: rest))) : W p l e R s m args below meth co H locs cells slots Q (F0 m pc ls (v :: rest)) := h ▸ k
end TV
theorem fm_nn : ∀ a, a < 9 → 0 ≤ nI a ^^^ nI 4 := by decide
theorem CopyOf.z {b b2 : Nat} {c0 c : CF} (h : CopyOf b b2 c0 c) (i : Nat) : c 0 i = c0 0 i := h.2.2 0 i (by omega) (by omega) (by omega) (by omega)
def PushP (o z : Nat) (c0 c : CF) : Prop := ∃ c1, CopyOf (3 + (o + z) % 4) 0 c0 c1 ∧ c = if z < 4 then up c1 0 2 (nI (z + 1)) else up c1 0 1 (nI ((o + 1) % 4))
def PopP (o z : Nat) (c0 c : CF) : Prop := ∃ c1, CopyOf 0 (3 + (o + z) % 4) c0 c1 ∧ c = up c1 0 2 (nI z)
theorem mstartF {l : Launch} {y : MethodName} {cc : ByteArray} {maxL : Nat} {ret : Option FieldType} {f k : Nat} {E : EV} {u : SS} {av : List Value} {Qc : Array Value → State → Outcome → State → Prop} (own : String) (hy : plainFor y = true) (ho : y.cls = own) (hn : (lg_sl av).length ≤ maxL)
    (body : ∀ (p : Program) (e : Env) (s : State) (m : MethodId) (args : Array Value) (below : List Frame) (meth : Method) (co : Code) (ls : Array Slot) (Q : State → Prop), MQ below Qc args s 0 0 (eR E) = Q → Fx E p s m args meth co cc maxL own ret → Iv E s s.heap [] u → lv_has ls maxL (lv_args 0 av) → W p l e (Rm f k) s m args below meth co s.heap [] 0 0 Q (F0 m 0 ls [])) : CT l y cc maxL ret (Rm f k) av E u Qc := by
  refine va_MetF (cc := cc) (maxL := maxL) (ret := ret) hy rfl ?_
  intro p e s m args below meth c s₁ B hml hv
  obtain ⟨rfl, hSw, hK⟩ := hv
  have hts := atoms_spec (ws := Cond.code y cc maxL ret :: gW) B.pre
  have hown : s.vm.findClass y.cls = some m.cls := findClass_of_methodNamed B.named
  rw [lg_entry_eq]
  exact body p e s m _ below meth c _ _ rfl ⟨B.exec, B.bytes, hml, ho ▸ hown, fun w hw => hts w (List.mem_cons_of_mem _ hw), hK, B.returns, B.notSynchronized⟩ ⟨hSw, va_S.rf⟩ (lv_entry av hn)
