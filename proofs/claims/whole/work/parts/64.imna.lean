section CM
variable {p : Program} {l : Launch} {e : Env} {R : Room} {s : State} {m : MethodId} {args : Array Value} {below : List Frame} {meth : Method} {co : Code} {H : Heap} {locs : List Loc} {cells slots : Nat} {Q : State → Prop} {cc : ByteArray} {pc : Nat} {ls : Array Slot} {rest : List Value} {nL : Nat} {own : String} {D : va_G} {base : Nat} {ws0 w : va_W} {tys : List (ClassId × FieldType)}
def rowsW (cy : ClassId) (r : Nat → Nat) : va_W := ((List.range 16).map r).map (fun a => (a, .inl (cy, 16, .inr (.inl (fun _ => 0)))))
theorem i_mna (F : Fi D p s m args meth co cc nL own) (hI : Iw D base ws0 s w H locs) (hK : va_K D vwCl tys s) {idx : Nat} {cy : ClassId} (hcy : s.vm.findClass "[J" = some cy) (hcl : Cond.classLink own idx "[[J" ∈ gW) (hov : Cond.arrayOver (.array .long) ∈ gW) (har : Cond.arrayClass .long ∈ gW) (hcells : cells + (1 + 16) ≤ R.cells) (hslots : slots + (16 + 16 * 16) ≤ R.slots) (hdg : decode cc pc = .ok (.multianewarray idx 2, 4))
    (kk : ∀ (q : Nat) (r : Nat → Nat) (cA : ClassId) (H1 : Heap), Iw D base ws0 s (w ++ ((q, .inl (cA, 16, .inr (.inr (.inr (.inr (fun i => if i < 16 then some (r i) else none)))))) :: rowsW cy r)) H1 locs → va_K D vwCl (tys ++ [(cA, .array .long)]) s → W p l e R s m args below meth co H1 locs (cells + 1 + 16) (slots + 16 + 16 * 16) Q (F0 m (pc + 4) ls (.ref q :: rest))) : W p l e R s m args below meth co H locs cells slots Q (F0 m pc ls (.int (nI 16) :: .int (nI 16) :: rest)) := by
  have hP0 : va_P D vwCl ((ws0 ++ w) ++ va_pl [] (fun _ => .inr (0, []))) H := by
    rw [show va_pl [] (fun _ => (.inr (0, []) : va_E)) = [] from rfl, List.append_nil]
    exact hI.1
  have hD0 : va_D (CD base) ((ws0 ++ w) ++ va_pl [] (fun _ => .inr (0, []))) := by
    rw [show va_pl [] (fun _ => (.inr (0, []) : va_E)) = [] from rfl, List.append_nil]
    exact hI.2.1
  refine va_mna F.1 F.2.1 F.2.2.2.1 (ty := .long) (F.2.2.2.2.1 _ hcl) (va_AOA.of (F.2.2.2.2.1 _ hov)) (F.2.2.2.2.1 _ har) hcy hK hP0 hD0 hI.2.2.1 (fun q h => Nat.le_trans hI.2.2.2 h) (N' := 16) (K' := 16) (z := (16, .inr (.inl (fun _ => 0)))) (by decide) (by decide) (by decide) (by decide) (Nat.le_of_ble_eq_true rfl) (Nat.le_of_ble_eq_true rfl) (Nat.le_of_ble_eq_true rfl) rfl rfl hcells hslots (fun c => by rw [vp_cell_l, ← arrV_new]; rfl) hdg (fun q r cA H1 hi _ h1 h2 h3 h4 => ?_)
  rw [← vr_rows (by intro a _ h; cases h)] at h2 h3
  have e9 : ∀ x : Nat × va_E, ((ws0 ++ w) ++ [x]) ++ (va_pl [] (fun _ => (.inr (0, []) : va_E)) ++ rowsW cy r) = ws0 ++ (w ++ (x :: rowsW cy r)) := fun x => by
    rw [show va_pl [] (fun _ => (.inr (0, []) : va_E)) = [] from rfl, List.nil_append]
    simp
  have h2 := (e9 _) ▸ h2
  have h3 := (e9 _) ▸ h3
  exact kk q r cA H1 ⟨h2, h3, h4, hI.2.2.2⟩ h1
end CM
