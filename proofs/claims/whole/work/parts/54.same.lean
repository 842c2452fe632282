theorem SameM.repM {c c' : CF} {X : XS} (h : RepM c X) (hs : SameM c c') (hX : XOk X) : RepM c' X := by
  obtain ⟨h1, h2, ⟨h3, h4⟩, h5⟩ := h
  exact ⟨h1.keep hX.1.1 fun i _ _ => hs _ _ (by decide), h2.keep hX.2.1 (hs _ _ (by decide)) (fun i => hs _ _ (by decide)), ⟨(hs _ _ (by decide)).trans h3, fun e => (h4 e).keep (hX.2.2.1.2 e).1 fun i _ _ => hs _ _ (by decide)⟩, h5.keep (hs _ _ (by decide)) (fun i => hs _ _ (by decide))⟩
theorem SameC.repC {c c' : CF} {X : XS} (h : RepC c X) (hs : SameC c c') : RepC c' X := h.keep fun q i hl => hs q i (by unfold live at hl; omega)
/-- both sides stand for one state -/
def RepS (u : SS) (X : XS) : Prop := RepC u.1 X ∧ RepM u.1 X ∧ XOk X
theorem RepS.step {u v w : SS} {X Y : XS} (hX : XOk X) (hM : RepM u.1 X) (h1 : RepC v.1 Y ∧ SameM u.1 v.1) (h2 : RepM w.1 Y ∧ SameC v.1 w.1) (hY : XOk Y) : RepS w Y := ⟨h2.2.repC h1.1, h2.1, hY⟩
/-- the state at the start -/
def X0 : XS := ((0, 256, fun _ => (0, 0, 0, 0)), (0, fun _ => (0, 256, fun _ => (0, 0, 0, 0))), (0, (0, 256, fun _ => (0, 0, 0, 0))), (0, fun _ => 0))
theorem X0_ok : XOk X0 := ⟨⟨by decide, by decide, by decide, fun j hj => absurd hj (Nat.not_lt_zero j)⟩, ⟨by decide, fun i hi => absurd hi (Nat.not_lt_zero i)⟩, ⟨by decide, fun e => absurd e (by decide)⟩, by decide, fun i hi => absurd hi (Nat.not_lt_zero i)⟩
def u0 : SS := (fun q i => if q = 1 then nI 256 else if q = 41 ∧ i = 1 then nI 256 else 0, fun _ _ => 0)
theorem u0_rep : RepS u0 X0 := by
  refine ⟨⟨⟨rfl, rfl, fun j hj => absurd hj (Nat.not_lt_zero j)⟩, ⟨0, by decide, rfl, rfl, fun i hi => absurd hi (Nat.not_lt_zero i)⟩, ⟨rfl, fun e => absurd e (by decide)⟩, ⟨rfl, by decide, fun i hi => absurd hi (Nat.not_lt_zero i)⟩⟩, ⟨⟨rfl, rfl, fun j hj => absurd hj (Nat.not_lt_zero j)⟩, ⟨rfl, fun i hi => absurd hi (Nat.not_lt_zero i)⟩, ⟨rfl, fun e => absurd e (by decide)⟩, ⟨rfl, fun i hi => absurd hi (Nat.not_lt_zero i)⟩⟩, X0_ok⟩
