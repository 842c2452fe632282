theorem arrV_cg {c : ClassId} {n : Nat} {f g : Nat → Value} (h : ∀ j, j < n → f j = g j) : arrV c n f = arrV c n g := by
  unfold arrV
  congr 1
  apply Array.ext
  · simp
  · intro i h1 h2
    simp at h1 ⊢
    exact h i h1
/-- the array class over arrays of a type is there -/
def va_AOA (ty : FieldType) (U : State) : Prop := (Cond.arrayOver (.array ty)).before #[] U = true
theorem ao_vm {A A' : Array Value} {U U' : State} (v : Vm) (ty : FieldType) : (Cond.arrayOver ty).before A (U.setVm v) = (Cond.arrayOver ty).before A' (U'.setVm v) := rfl
theorem va_AOA.of {ty : FieldType} {A : Array Value} {U : State} (h : (Cond.arrayOver (.array ty)).before A U = true) : va_AOA ty U := h
theorem va_AOA.use {ty : FieldType} {A : Array Value} {U : State} (h : va_AOA ty U) : (Cond.arrayOver (.array ty)).before A U = true := h
theorem ao_alike {A : Array Value} {s : State} {v : Vm} (h : s.vm.Alike v) (ty : FieldType) : (Cond.arrayOver ty).before A (s.setVm v) = (Cond.arrayOver ty).before A s := by
  simp only [Cond.before, Cond.holds, Cond.value, State.vm_setVm, h.findClass]
  congr 1
  congr 1
  funext comp
  refine congr (congrArg Option.bind ?_) (funext fun c => h.class_map _ (fun k r _ _ => rfl) c)
  have e := (va_idx_bare v comp).symm.trans ((congrArg (fun w : Vm => w.classes.findIdx? fun (x : Class) => match x.kind with | .array component _ => component == comp | _ => false) h.bare_eq).trans (va_idx_bare s.vm comp))
  exact e
theorem va_AOA.moved {ty : FieldType} {u U : State} (hvm : u.vm.Alike U.vm) (h : va_AOA ty u) : va_AOA ty U := by
  have h1 : (Cond.arrayOver (.array ty)).before #[] (u.setVm U.vm) = true := by rw [ao_alike hvm]; exact h
  have h2 : (Cond.arrayOver (.array ty)).before #[] (U.setVm U.vm) = true := by rw [ao_vm (A' := #[]) (U' := u)]; exact h1
  exact h2
theorem ao_spec {ty : FieldType} {U : State} (h : va_AOA ty U) : ∃ comp c k, U.vm.findClass (FieldType.array ty).toString = some comp ∧ U.vm.classes[c]? = some k ∧ k.kind = .array comp (.array ty) ∧ U.vm.findClass ("[" ++ (FieldType.array ty).toString) = some c := by
  unfold va_AOA at h
  simp only [Cond.before, Cond.holds, Cond.value, beq_iff_eq] at h
  cases hc : U.vm.findClass (FieldType.array ty).toString with
  | none => simp [hc] at h
  | some comp =>
    simp only [hc, Option.bind_some, Option.bind_eq_some_iff, Option.map_eq_some_iff] at h
    obtain ⟨c, hi, k, hk, hb⟩ := h
    obtain ⟨hlt, hp, -⟩ := Array.findIdx?_eq_some_iff_getElem.mp hi
    have hk2 : U.vm.classes[c] = k := by rw [Array.getElem?_eq_getElem hlt] at hk; exact Option.some.inj hk
    rw [hk2] at hp
    cases hkk : k.kind with
    | array component t =>
      rw [hkk] at hp hb
      simp at hp hb
      refine ⟨comp, c, k, rfl, hk, ?_, hb.2⟩
      rw [hkk, hp, hb.1]
    | _ => rw [hkk] at hp; simp at hp
/-- the nest mates' links, the array classes over objects and arrays -/
def Nx (U : State) : Prop := (∀ w ∈ nestL, va_Nw w U) ∧ va_AO "ShareStreams$Bench" U ∧ va_AOA .long U
theorem Nx.same {u U : State} (hv : u.vm = U.vm) (h : Nx u) : Nx U := ⟨fun w hw => nest_same (nestL_nest w hw) hv (h.1 w hw), va_AO.moved (by rw [hv]; exact Vm.Alike.refl U.vm) h.2.1, va_AOA.moved (by rw [hv]; exact Vm.Alike.refl U.vm) h.2.2⟩
theorem Nx.warm {s U : State} (hW : s.WarmedH U.vm) (h : Nx s) : Nx U := ⟨fun w hw => nest_warm (nestL_nest w hw) hW (h.1 w hw), va_AO.moved hW.alike h.2.1, va_AOA.moved hW.alike h.2.2⟩
theorem ra_eq {U : State} {c c' : ClassId} {ty : FieldType} (h : va_RA U c ty) (h' : va_RA U c' ty) : c = c' := by
  cases ty with
  | object C =>
    obtain ⟨_, _, _, _, _, h4⟩ := h
    obtain ⟨_, _, _, _, _, h5⟩ := h'
    exact Option.some.inj (h4.symm.trans h5)
  | _ =>
    have e1 : U.vm.findClass _ = some c := h
    have e2 : U.vm.findClass _ = some c' := h'
    exact Option.some.inj (e1.symm.trans e2)
/-- the array classes of this system -/
def tyT (T : Nat → ClassId) : List (ClassId × FieldType) := [(T 0, .int), (T 1, .char), (T 2, .long), (T 3, .object "ShareStreams$Bench"), (T 4, .array .long)]
theorem arrL {ty : FieldType} {args : Array Value} {s : State} (h : (Cond.arrayClass ty).before args s = true) : ∃ cA : ClassId, s.vm.findClass ("[" ++ ty.toString) = some cA ∧ ArrOfT s cA ty := by
  obtain ⟨cA, kA, comp, h1, h2, h3⟩ := Cond.arrayClass_spec h
  exact ⟨cA, h1, fun n z => ⟨fun k h => (by cases h), kA, h2, comp, h3⟩⟩
