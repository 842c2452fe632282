def Nx (U : State) : Prop := ∀ w ∈ nestL, va_Nw w U
def PreI (D : va_G) (base : Nat) (ws0 w : va_W) (U : State) : Prop := base ≤ U.heap.size ∧ va_P D vwCl (ws0 ++ w) U.heap ∧ va_D (CD base) (ws0 ++ w) ∧ va_K D vwCl [] U ∧ Nx U
abbrev Qn {S : Type} (D : va_G) (base : Nat) (ws0 : va_W) (out : S → va_W) (tys : S → List (ClassId × FieldType)) : Array Value → State → Outcome → State → Prop := va_Qv (fun _ : S => True) (fun v t => va_P D vwCl (ws0 ++ out v) t.heap ∧ va_D (CD base) (ws0 ++ out v) ∧ va_K D vwCl (tys v) t) (CD base)
/-- a constructor's contract: the object stands last; behind it come the new cells -/
abbrev CI (l : Launch) (y : MethodName) (cc : ByteArray) (maxL f k mc ms : Nat) (D : va_G) (base : Nat) (ws0 : va_W) (h0 : Nat) (obj : va_E) {S : Type} (out : S → va_W) (tys : S → List (ClassId × FieldType)) : Prop :=
  Met l y (Cond.code y cc maxL none :: gW) ({ frames := f, cells := mc, slots := ms, locals := k } : Room) (va_Pc [.ref h0] (PreI D base ws0 [(h0, obj)])) (Qn D base ws0 out tys) mc ms (CD base)
theorem Nx.same {u U : State} (hv : u.vm = U.vm) (h : Nx u) : Nx U := fun w hw => nest_same (nestL_nest w hw) hv (h w hw)
theorem PreI.blind {D : va_G} {base : Nat} {ws0 w : va_W} {av : List Value} : FrameBlind (va_Pc av (PreI D base ws0 w)) := fun a U g mk q => ⟨q.1, q.2.1, q.2.2.1, q.2.2.2.1, va_K.moved (u := U) (U := U.calling g mk a) (Vm.Alike.refl U.vm) q.2.2.2.2.1, Nx.same (u := U) (U := U.calling g mk a) rfl q.2.2.2.2.2⟩
theorem istart {l : Launch} {y : MethodName} {cc : ByteArray} {maxL f k mc ms : Nat} {D : va_G} {base : Nat} {ws0 : va_W} {h0 : Nat} {obj : va_E} {S : Type} {out : S → va_W} {tys : S → List (ClassId × FieldType)} (own : String) (hy : plainName y.cls = true) (ho : y.cls = own) (hi : y.name = "<init>") (hn : (lg_sl [Value.ref h0]).length ≤ maxL)
    (body : ∀ (p : Program) (e : Env) (s : State) (m : MethodId) (args : Array Value) (below : List Frame) (meth : Method) (co : Code) (ls : Array Slot) (Q : State → Prop), MQ below (Qn D base ws0 out tys) args s mc ms (CD base) = Q → Fi D p s m args meth co cc maxL own → Iw D base ws0 s [(h0, obj)] s.heap [] → va_K D vwCl [] s → lv_has ls maxL (lv_args 0 [Value.ref h0]) → W p l e ({ frames := f, cells := mc, slots := ms, locals := k } : Room) s m args below meth co s.heap [] 0 0 Q (F0 m 0 ls [])) : CI l y cc maxL f k mc ms D base ws0 h0 obj out tys := by
  refine Met.ofW (cc := cc) (maxL := maxL) (ret := none) hy rfl ?_
  intro p e s m args below meth c s₁ B hml hv
  obtain ⟨rfl, h1, h2, h3, h4, h5⟩ := hv
  have hts := atoms_spec (ws := Cond.code y cc maxL none :: gW) B.pre
  have hown : s.vm.findClass y.cls = some m.cls := findClass_of_methodNamed B.named
  have hin : meth.name = "<init>" := (name_of_methodNamed B.named B.method).1.trans hi
  rw [lg_entry_eq]
  exact body p e s m _ below meth c _ _ rfl ⟨B.exec, B.bytes, hml, ho ▸ hown, fun w hw => hts w (List.mem_cons_of_mem _ hw), h5, B.returns, B.notSynchronized, hin⟩ ⟨h2, h3, va_S.rf, h1⟩ h4 (lv_entry [Value.ref h0] hn)
section CJ
variable {p : Program} {l : Launch} {e : Env} {R : Room} {s : State} {m : MethodId} {args : Array Value} {below : List Frame} {meth : Method} {co : Code} {H : Heap} {locs : List Loc} {cells slots : Nat} {Q : State → Prop} {cc : ByteArray} {pc : Nat} {ls : Array Slot} {rest : List Value} {nL : Nat} {own : String} {D : va_G} {base : Nat} {ws0 w : va_W} {tys : List (ClassId × FieldType)}
theorem i_ret {S : Type} {out : S → va_W} {ty : S → List (ClassId × FieldType)} (hQ : MQ below (Qn D base ws0 out ty) args s cells slots (CD base) = Q) (F : Fi D p s m args meth co cc nL own) (v : S) (hI : Iw D base ws0 s (out v) H locs) (hK : va_K D vwCl (ty v) s) (hdg : decode cc pc = .ok (.return_, 1)) : W p l e R s m args below meth co H locs cells slots Q (F0 m pc ls []) := by
  rw [← hQ]
  exact W.vret F.1 F.2.1 F.2.2.2.2.2.2.1 (fun t ht hW => ⟨⟨v, rfl, trivial, by rw [ht]; exact hI.1, hI.2.1, va_K.moved hW.alike hK⟩, hI.2.2.1.F ht⟩) hI.2.2.1.2.2 hdg F.2.2.2.2.2.2.2.1
end CJ
