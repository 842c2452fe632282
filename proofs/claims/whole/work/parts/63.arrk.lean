theorem arrL {args : Array Value} {s : State} (h : (Cond.arrayClass .long).before args s = true) : ∃ cA : ClassId, s.vm.findClass "[J" = some cA ∧ ArrOfT s cA .long ∧ va_RA s cA .long := by
  obtain ⟨cA, kA, comp, h1, h2, h3⟩ := Cond.arrayClass_spec h
  exact ⟨cA, h1, fun n z => ⟨fun k h => (by cases h), kA, h2, comp, h3⟩, h1⟩
theorem va_K.add {D : va_G} {cl : List vw_C} {tys : List (ClassId × FieldType)} {U : State} {c : ClassId} {ty : FieldType} (h : va_K D cl tys U) (h1 : ArrOfT U c ty) (h2 : va_RA U c ty) : va_K D cl (tys ++ [(c, ty)]) U := h.app ⟨h.1, fun k q hk => by
  cases k with
  | zero => cases hk; exact ⟨h1, h2⟩
  | succ k => cases hk⟩
