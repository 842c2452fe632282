/-! constructors: the whole world goes through, the object stands behind the rest -/
def CD (base : Nat) : Nat → Prop := fun q => base ≤ q
abbrev S2 : Type := (Nat → Nat) × (Nat → Nat)
section CI
variable {p : Program} {l : Launch} {e : Env} {R : Room} {s : State} {m : MethodId} {args : Array Value} {below : List Frame} {meth : Method} {co : Code} {H : Heap} {locs : List Loc} {cells slots : Nat} {Q : State → Prop} {cc : ByteArray} {pc : Nat} {ls : Array Slot} {rest : List Value} {nL : Nat} {own : String} {D : va_G} {T : Nat → ClassId} {base : Nat} {ws0 w : va_W}
def Iw (D : va_G) (base : Nat) (ws0 : va_W) (s : State) (w : va_W) (H : Heap) (locs : List Loc) : Prop := va_P D vwCl (ws0 ++ w) H ∧ va_D (CD base) (ws0 ++ w) ∧ va_S (CD base) s.heap H locs ∧ base ≤ s.heap.size
/-- what a body leans on that makes objects -/
def Fj (D : va_G) (T : Nat → ClassId) (p : Program) (s : State) (m : MethodId) (args : Array Value) (co : Code) (cc : ByteArray) (nL : Nat) (own : String) : Prop := p.tables.exec = Jvm.exec ∧ co.code = cc ∧ co.maxLocals = nL ∧ s.vm.findClass own = some m.cls ∧ (∀ w ∈ gW, w.before args s = true) ∧ va_K D vwCl (tyT T) s ∧ Nx s
/-- a constructor's -/
def Fi (D : va_G) (T : Nat → ClassId) (p : Program) (s : State) (m : MethodId) (args : Array Value) (meth : Method) (co : Code) (cc : ByteArray) (nL : Nat) (own : String) : Prop := Fj D T p s m args co cc nL own ∧ meth.sig.returnType = none ∧ meth.locks = false ∧ meth.name = "<init>"
theorem app_at {α : Type} : ∀ (a b : List α) (k : Nat), (a ++ b)[a.length + k]? = b[k]?
  | [], b, k => by
    show b[0 + k]? = b[k]?
    rw [Nat.zero_add]
  | x :: a, b, k => by
    show (x :: (a ++ b))[(a.length + 1) + k]? = b[k]?
    rw [show a.length + 1 + k = (a.length + k) + 1 from by omega, List.getElem?_cons_succ]
    exact app_at a b k
theorem app_set {α : Type} : ∀ (a b : List α) (k : Nat) (v : α), (a ++ b).set (a.length + k) v = a ++ b.set k v
  | [], b, k, v => by
    show b.set (0 + k) v = b.set k v
    rw [Nat.zero_add]
  | x :: a, b, k, v => by
    show (x :: (a ++ b)).set ((a.length + 1) + k) v = x :: (a ++ b.set k v)
    rw [show a.length + 1 + k = (a.length + k) + 1 from by omega, List.set_cons_succ, app_set a b k v]
theorem i_newa (F : Fj D T p s m args co cc nL own) (hI : Iw D base ws0 s w H locs) {atype : ArrayType} (harr : Cond.arrayClass (newarray.typeOf atype) ∈ gW) {ty : FieldType} (hty : newarray.typeOf atype = ty) (t0 : Nat) {c0 : ClassId} (ht : (tyT T)[t0]? = some (c0, ty)) {n N' : Nat} {a0 : vp_A} (ha : ∀ cA : ClassId, vp_cell cA a0 = arrV cA N' (fun _ => defaultValue ty)) (hn : ¬ nI n < 0) (hN : (nI n).toNatClampNeg = N') (hbytes : N' * componentBytes ty ≤ 536870912) (hcells : cells + 1 ≤ R.cells) (hslots : slots + N' ≤ R.slots) (hdg : decode cc pc = .ok (.newarray atype, 2))
    (kk : ∀ (q : Nat) (H1 : Heap), Iw D base ws0 s (w ++ [(q, .inl (c0, a0))]) H1 locs → W p l e R s m args below meth co H1 locs (cells + 1) (slots + N') Q (F0 m (pc + 2) ls (.ref q :: rest))) : W p l e R s m args below meth co H locs cells slots Q (F0 m pc ls (.int (nI n) :: rest)) :=
  va_newa F.1 F.2.1 (F.2.2.2.2.1 _ harr) hty F.2.2.2.2.2.1 hI.1 hI.2.1 hI.2.2.1 (fun q h => Nat.le_trans hI.2.2.2 h) ha hn hN hbytes hcells hslots hdg (fun q cA H1 h1 h2 h3 h4 => by
    have e9 : cA = c0 := ra_eq (h1.2 5 (cA, ty) rfl).2 (F.2.2.2.2.2.1.2 t0 _ ht).2
    subst e9
    rw [List.append_assoc] at h2 h3
    exact kk q H1 ⟨h2, h3, h4, hI.2.2.2⟩)
theorem i_newq (F : Fj D T p s m args co cc nL own) (hI : Iw D base ws0 s w H locs) {idx : Nat} (hcl : Cond.classLink own idx "ShareStreams$Bench" ∈ gW) (hcells : cells + 1 ≤ R.cells) (hslots : slots + 4 ≤ R.slots) (hdg : decode cc pc = .ok (.anewarray idx, 3))
    (kk : ∀ (q : Nat) (H1 : Heap), Iw D base ws0 s (w ++ [(q, .inl (T 3, 4, .inr (.inr (.inr (.inr (fun _ => none))))))]) H1 locs → W p l e R s m args below meth co H1 locs (cells + 1) (slots + 4) Q (F0 m (pc + 3) ls (.ref q :: rest))) : W p l e R s m args below meth co H locs cells slots Q (F0 m pc ls (.int (nI 4) :: rest)) :=
  va_newq F.1 F.2.1 F.2.2.2.1 (F.2.2.2.2.1 _ hcl) F.2.2.2.2.2.2.2.1 F.2.2.2.2.2.1 hI.1 hI.2.1 hI.2.2.1 (fun q h => Nat.le_trans hI.2.2.2 h) (N' := 4) (by decide) (by decide) (by decide) hcells hslots hdg (fun q cA H1 h1 h2 h3 h4 => by
    have e9 : cA = T 3 := ra_eq (h1.2 5 (cA, .object "ShareStreams$Bench") rfl).2 (F.2.2.2.2.2.1.2 3 _ rfl).2
    subst e9
    rw [List.append_assoc] at h2 h3
    exact kk q H1 ⟨h2, h3, h4, hI.2.2.2⟩)
theorem i_put {C : String} {Tf : u_T} {N ci idx : Nat} {ref : String} (F : Fj D T p s m args co cc nL own) (hI : Iw D base ws0 s w H locs) (k : Nat) {a : Nat} {fs : List Value} (he : w[k]? = some (a, .inr (ci, fs))) (hc : vwCl[ci]? = some (C, Tf, N)) (hin : ∀ w ∈ u_ws C Tf N, w ∈ gW) (ty0 : Nat → FieldType) (hty : ∀ k, k < N → parseFieldDescriptor (Tf k).2.2.1 = some (ty0 k)) (hnm : ∀ a, a < N → ∀ b, b < N → a ≠ b → (Tf a).2.1 ≠ (Tf b).2.1) (j : Nat) (hj : j < N) (hL : Cond.fieldLink own idx ref (Tf j).2.1 (Tf j).2.2.1 ∈ gW) (hs : (Tf j).1 = ref) (hfin : (Tf j).2.2.2 = false) {ty : FieldType} {v : Value} (hd : parseFieldDescriptor (Tf j).2.2.1 = some ty) (hn : narrow ty v = v) (hfit : fits ty v = true) (hl : j < fs.length) (hdg : decode cc pc = .ok (.putfield idx, 3))
    (kk : ∀ (H1 : Heap) (locs1 : List Loc), Iw D base ws0 s (w.set k (a, .inr (ci, fs.set j v))) H1 locs1 → W p l e R s m args below meth co H1 locs1 cells slots Q (F0 m (pc + 3) ls rest)) : W p l e R s m args below meth co H locs cells slots Q (F0 m pc ls (v :: .ref a :: rest)) :=
  va_put (ref := ref) F.1 F.2.1 F.2.2.2.2.1 hin ty0 hty hnm F.2.2.2.1 F.2.2.2.2.2.1 hI.1 hI.2.1 hI.2.2.1 (ws0.length + k) (by rw [app_at]; exact he) hc j hj (F.2.2.2.2.1 _ hL) (fun x hx => by rw [← hs]; exact hx) hfin hd hn hfit hl hdg (fun H1 locs1 h1 h2 h3 => by
    rw [app_set] at h1 h2
    exact kk H1 locs1 ⟨h1, h2, h3, hI.2.2.2⟩)
theorem i_putF {C : String} {Tf : u_T} {N ci idx : Nat} {ref : String} (F : Fj D T p s m args co cc nL own) (hnn : meth.name = "<init>") (hI : Iw D base ws0 s w H locs) (k : Nat) {a : Nat} {fs : List Value} (he : w[k]? = some (a, .inr (ci, fs))) (hc : vwCl[ci]? = some (C, Tf, N)) (hin : ∀ w ∈ u_ws C Tf N, w ∈ gW) (ty0 : Nat → FieldType) (hty : ∀ k, k < N → parseFieldDescriptor (Tf k).2.2.1 = some (ty0 k)) (hnm : ∀ a, a < N → ∀ b, b < N → a ≠ b → (Tf a).2.1 ≠ (Tf b).2.1) (j : Nat) (hj : j < N) (hL : Cond.fieldLink own idx ref (Tf j).2.1 (Tf j).2.2.1 ∈ gW) (hs : (Tf j).1 = ref) (hfin : (Tf j).2.2.2 = true) (hdecl : (Tf j).1 = own) {ty : FieldType} {v : Value} (hd : parseFieldDescriptor (Tf j).2.2.1 = some ty) (hn : narrow ty v = v) (hfit : fits ty v = true) (hl : j < fs.length) (hdg : decode cc pc = .ok (.putfield idx, 3))
    (kk : ∀ (H1 : Heap) (locs1 : List Loc), Iw D base ws0 s (w.set k (a, .inr (ci, fs.set j v))) H1 locs1 → W p l e R s m args below meth co H1 locs1 cells slots Q (F0 m (pc + 3) ls rest)) : W p l e R s m args below meth co H locs cells slots Q (F0 m pc ls (v :: .ref a :: rest)) :=
  va_putF (ref := ref) F.1 F.2.1 F.2.2.2.2.1 hin ty0 hty hnm F.2.2.2.1 F.2.2.2.2.2.1 hI.1 hI.2.1 hI.2.2.1 (ws0.length + k) (by rw [app_at]; exact he) hc j hj (F.2.2.2.2.1 _ hL) (fun x hx => by rw [← hs]; exact hx) hfin hnn hdecl hd hn hfit hl hdg (fun H1 locs1 h1 h2 h3 => by
    rw [app_set] at h1 h2
    exact kk H1 locs1 ⟨h1, h2, h3, hI.2.2.2⟩)
theorem i_new {C : String} {Tf : u_T} {N ci idx : Nat} (F : Fj D T p s m args co cc nL own) (hI : Iw D base ws0 s w H locs) (hc : vwCl[ci]? = some (C, Tf, N)) (hin : ∀ w ∈ u_ws C Tf N, w ∈ gW) (ty : Nat → FieldType) (hty : ∀ k, k < N → parseFieldDescriptor (Tf k).2.2.1 = some (ty k)) (hcl : Cond.classLink own idx C ∈ gW) (hinst : Cond.instantiable C N ∈ gW) (hini : Cond.initialized C ∈ gW) {fs : List Value} (hfs : ∀ j, j < N → defaultValue (ty j) = vp_V fs j) (hcells : cells + 1 ≤ R.cells) (hslots : slots + N ≤ R.slots) (hdg : decode cc pc = .ok (.new idx, 3))
    (kk : ∀ (q : Nat) (H1 : Heap), Iw D base ws0 s (w ++ [(q, .inr (ci, fs))]) H1 locs → W p l e R s m args below meth co H1 locs (cells + 1) (slots + N) Q (F0 m (pc + 3) ls (.ref q :: rest))) : W p l e R s m args below meth co H locs cells slots Q (F0 m pc ls rest) :=
  va_new F.1 F.2.1 F.2.2.2.2.1 hin ty hty F.2.2.2.1 (F.2.2.2.2.1 _ hcl) (F.2.2.2.2.1 _ hinst) (F.2.2.2.2.1 _ hini) F.2.2.2.2.2.1 hI.1 hI.2.1 hI.2.2.1 (fun q h => Nat.le_trans hI.2.2.2 h) hc hfs hcells hslots hdg (fun q H1 h2 h3 h4 => by
    rw [List.append_assoc] at h2 h3
    exact kk q H1 ⟨h2, h3, h4, hI.2.2.2⟩)
theorem i_get {C : String} {Tf : u_T} {N ci idx : Nat} {ref : String} (F : Fj D T p s m args co cc nL own) (hI : Iw D base ws0 s w H locs) (k : Nat) {a : Nat} {fs : List Value} (he : w[k]? = some (a, .inr (ci, fs))) (hc : vwCl[ci]? = some (C, Tf, N)) (hin : ∀ w ∈ u_ws C Tf N, w ∈ gW) (j : Nat) (hj : j < N) (hL : Cond.fieldLink own idx ref (Tf j).2.1 (Tf j).2.2.1 ∈ gW) (hs : (Tf j).1 = ref) {v : Value} (hv : fs[j]? = some v) (hdg : decode cc pc = .ok (.getfield idx, 3)) (kk : W p l e R s m args below meth co H locs cells slots Q (F0 m (pc + 3) ls (v :: rest))) : W p l e R s m args below meth co H locs cells slots Q (F0 m pc ls (.ref a :: rest)) :=
  va_get (ref := ref) F.1 F.2.1 F.2.2.2.2.1 hin F.2.2.2.1 F.2.2.2.2.2.1 hI.1 (ws0.length + k) (by rw [app_at]; exact he) hc j hj (F.2.2.2.2.1 _ hL) (fun x hx => by rw [← hs]; exact hx) hv hdg kk
theorem i_ist (F : Fj D T p s m args co cc nL own) (hI : Iw D base ws0 s w H locs) (k t0 : Nat) {a : Nat} {cA : ClassId} {n : Nat} {f : Nat → Int32} (ha : w[k]? = some (a, .inl (cA, n, .inl f))) (ht : (tyT T)[t0]? = some (cA, .int)) {i : Nat} {x : Int32} (hin : i < n) (hn : n < 2 ^ 31) (hdg : decode cc pc = .ok (.iastore, 1))
    (kk : ∀ (H1 : Heap) (locs1 : List Loc), Iw D base ws0 s (w.set k (a, .inl (cA, n, .inl (upd f i x)))) H1 locs1 → W p l e R s m args below meth co H1 locs1 cells slots Q (F0 m (pc + 1) ls rest)) : W p l e R s m args below meth co H locs cells slots Q (F0 m pc ls (.int x :: .int (nI i) :: .ref a :: rest)) :=
  va_iast F.1 F.2.1 F.2.2.2.2.2.1 hI.1 hI.2.1 hI.2.2.1 (ws0.length + k) t0 (by rw [app_at]; exact ha) ht (nI_arr hin hn).1 hdg (fun H1 locs1 h1 h2 h3 => by
    rw [app_set, (nI_arr hin hn).2] at h1 h2
    exact kk H1 locs1 ⟨h1, h2, h3, hI.2.2.2⟩)
theorem i_lst (F : Fj D T p s m args co cc nL own) (hI : Iw D base ws0 s w H locs) (k t0 : Nat) {a : Nat} {cA : ClassId} {n : Nat} {f : Nat → Int64} (ha : w[k]? = some (a, .inl (cA, n, .inr (.inl f)))) (ht : (tyT T)[t0]? = some (cA, .long)) {i : Nat} {x : Int64} (hin : i < n) (hn : n < 2 ^ 31) (hdg : decode cc pc = .ok (.lastore, 1))
    (kk : ∀ (H1 : Heap) (locs1 : List Loc), Iw D base ws0 s (w.set k (a, .inl (cA, n, .inr (.inl (vp_updL f i x))))) H1 locs1 → W p l e R s m args below meth co H1 locs1 cells slots Q (F0 m (pc + 1) ls rest)) : W p l e R s m args below meth co H locs cells slots Q (F0 m pc ls (.long x :: .int (nI i) :: .ref a :: rest)) :=
  va_last F.1 F.2.1 F.2.2.2.2.2.1 hI.1 hI.2.1 hI.2.2.1 (ws0.length + k) t0 (by rw [app_at]; exact ha) ht (nI_arr hin hn).1 hdg (fun H1 locs1 h1 h2 h3 => by
    rw [app_set, (nI_arr hin hn).2] at h1 h2
    exact kk H1 locs1 ⟨h1, h2, h3, hI.2.2.2⟩)
theorem i_ast (F : Fj D T p s m args co cc nL own) (hI : Iw D base ws0 s w H locs) (k qk : Nat) {a : Nat} {n v : Nat} {vs : List Value} {f : Nat → Option Nat} (ha : w[k]? = some (a, .inl (T 3, n, .inr (.inr (.inr (.inr f)))))) (hv : w[qk]? = some (v, .inr (0, vs))) {i : Nat} (hin : i < n) (hn : n < 2 ^ 31) (hdg : decode cc pc = .ok (.aastore, 1))
    (kk : ∀ (H1 : Heap) (locs1 : List Loc), Iw D base ws0 s (w.set k (a, .inl (T 3, n, .inr (.inr (.inr (.inr (va_up f i (some v)))))))) H1 locs1 → W p l e R s m args below meth co H1 locs1 cells slots Q (F0 m (pc + 1) ls rest)) : W p l e R s m args below meth co H locs cells slots Q (F0 m pc ls (.ref v :: .int (nI i) :: .ref a :: rest)) :=
  va_astq (r := (RX0, TX0, 4)) F.1 F.2.1 F.2.2.2.2.2.1 hI.1 hI.2.1 hI.2.2.1 (ws0.length + k) 3 (ws0.length + qk) 0 (by rw [app_at]; exact ha) rfl (by rw [app_at]; exact hv) rfl (nI_arr hin hn).1 hdg (fun H1 locs1 h1 h2 h3 => by
    rw [app_set, (nI_arr hin hn).2] at h1 h2
    exact kk H1 locs1 ⟨h1, h2, h3, hI.2.2.2⟩)
theorem i_len (F : Fj D T p s m args co cc nL own) (hI : Iw D base ws0 s w H locs) (k t0 : Nat) {a : Nat} {cA : ClassId} {x : vp_A} (ha : w[k]? = some (a, .inl (cA, x))) {ty : FieldType} (ht : (tyT T)[t0]? = some (cA, ty)) {n : Nat} (hv : x.1 = n) (hdg : decode cc pc = .ok (.arraylength, 1))
    (kk : W p l e R s m args below meth co H locs cells slots Q (F0 m (pc + 1) ls (.int (nI n) :: rest))) : W p l e R s m args below meth co H locs cells slots Q (F0 m pc ls (.ref a :: rest)) :=
  va_alen F.1 F.2.1 F.2.2.2.2.2.1 hI.1 (ws0.length + k) t0 (by rw [app_at]; exact ha) ht (v := nI n) (by rw [hv]; rfl) hdg kk
def rowsW (cy : ClassId) (r : Nat → Nat) : va_W := ((List.range 16).map r).map (fun a => (a, .inl (cy, 16, .inr (.inl (fun _ => 0)))))
theorem i_mna (F : Fj D T p s m args co cc nL own) (hI : Iw D base ws0 s w H locs) {idx : Nat} (hcl : Cond.classLink own idx "[[J" ∈ gW) (har : Cond.arrayClass .long ∈ gW) (hcells : cells + (1 + 16) ≤ R.cells) (hslots : slots + (16 + 16 * 16) ≤ R.slots) (hdg : decode cc pc = .ok (.multianewarray idx 2, 4))
    (kk : ∀ (q : Nat) (r : Nat → Nat) (H1 : Heap), Iw D base ws0 s (w ++ ((q, .inl (T 4, 16, .inr (.inr (.inr (.inr (fun i => if i < 16 then some (r i) else none)))))) :: rowsW (T 2) r)) H1 locs → W p l e R s m args below meth co H1 locs (cells + 1 + 16) (slots + 16 + 16 * 16) Q (F0 m (pc + 4) ls (.ref q :: rest))) : W p l e R s m args below meth co H locs cells slots Q (F0 m pc ls (.int (nI 16) :: .int (nI 16) :: rest)) := by
  have hP0 : va_P D vwCl ((ws0 ++ w) ++ va_pl [] (fun _ => .inr (0, []))) H := by
    rw [show va_pl [] (fun _ => (.inr (0, []) : va_E)) = [] from rfl, List.append_nil]
    exact hI.1
  have hD0 : va_D (CD base) ((ws0 ++ w) ++ va_pl [] (fun _ => .inr (0, []))) := by
    rw [show va_pl [] (fun _ => (.inr (0, []) : va_E)) = [] from rfl, List.append_nil]
    exact hI.2.1
  have hcy : s.vm.findClass (FieldType.array .long).toString = some (T 2) := (F.2.2.2.2.2.1.2 2 (T 2, .long) rfl).2
  refine va_mna F.1 F.2.1 F.2.2.2.1 (ty := .long) (F.2.2.2.2.1 _ hcl) F.2.2.2.2.2.2.2.2 (F.2.2.2.2.1 _ har) hcy F.2.2.2.2.2.1 hP0 hD0 hI.2.2.1 (fun q h => Nat.le_trans hI.2.2.2 h) (N' := 16) (K' := 16) (z := (16, .inr (.inl (fun _ => 0)))) (by decide) (by decide) (by decide) (by decide) (Nat.le_of_ble_eq_true rfl) (Nat.le_of_ble_eq_true rfl) (Nat.le_of_ble_eq_true rfl) rfl rfl hcells hslots (fun c => by rw [vp_cell_l, ← arrV_new]; rfl) hdg (fun q r cA H1 hi _ h1 h2 h3 h4 => ?_)
  have e8 : cA = T 4 := ra_eq (h1.2 5 (cA, .array .long) rfl).2 (F.2.2.2.2.2.1.2 4 _ rfl).2
  subst e8
  rw [← vr_rows (by intro a _ h; cases h)] at h2 h3
  have e9 : ∀ x : Nat × va_E, ((ws0 ++ w) ++ [x]) ++ (va_pl [] (fun _ => (.inr (0, []) : va_E)) ++ rowsW (T 2) r) = ws0 ++ (w ++ (x :: rowsW (T 2) r)) := fun x => by
    rw [show va_pl [] (fun _ => (.inr (0, []) : va_E)) = [] from rfl, List.nil_append]
    simp
  have h2 := (e9 _) ▸ h2
  have h3 := (e9 _) ▸ h3
  exact kk q r H1 ⟨h2, h3, h4, hI.2.2.2⟩
end CI
def PreI (D : va_G) (T : Nat → ClassId) (base : Nat) (ws0 w : va_W) (U : State) : Prop := base ≤ U.heap.size ∧ va_P D vwCl (ws0 ++ w) U.heap ∧ va_D (CD base) (ws0 ++ w) ∧ va_K D vwCl (tyT T) U ∧ Nx U
abbrev Qn (D : va_G) (base : Nat) (ws0 : va_W) (out : S2 → va_W) : Array Value → State → Outcome → State → Prop := va_Qv (fun _ : S2 => True) (fun v t => va_P D vwCl (ws0 ++ out v) t.heap ∧ va_D (CD base) (ws0 ++ out v)) (CD base)
/-- a constructor's contract: the object stands last; behind it come the new cells -/
abbrev CI (l : Launch) (y : MethodName) (cc : ByteArray) (maxL f k mc ms : Nat) (D : va_G) (T : Nat → ClassId) (base : Nat) (ws0 : va_W) (h0 : Nat) (obj : va_E) (out : S2 → va_W) : Prop :=
  Met l y (Cond.code y cc maxL none :: gW) ({ frames := f, cells := mc, slots := ms, locals := k } : Room) (va_Pc [.ref h0] (PreI D T base ws0 [(h0, obj)])) (Qn D base ws0 out) mc ms (CD base)
theorem PreI.blind {D : va_G} {T : Nat → ClassId} {base : Nat} {ws0 w : va_W} {av : List Value} : FrameBlind (va_Pc av (PreI D T base ws0 w)) := fun a U g mk q => ⟨q.1, q.2.1, q.2.2.1, q.2.2.2.1, va_K.moved (u := U) (U := U.calling g mk a) (Vm.Alike.refl U.vm) q.2.2.2.2.1, Nx.same (u := U) (U := U.calling g mk a) rfl q.2.2.2.2.2⟩
theorem istart {l : Launch} {y : MethodName} {cc : ByteArray} {maxL f k mc ms : Nat} {D : va_G} {T : Nat → ClassId} {base : Nat} {ws0 : va_W} {h0 : Nat} {obj : va_E} {out : S2 → va_W} (own : String) (hy : plainName y.cls = true) (ho : y.cls = own) (hi : y.name = "<init>") (hn : (lg_sl [Value.ref h0]).length ≤ maxL)
    (body : ∀ (p : Program) (e : Env) (s : State) (m : MethodId) (args : Array Value) (below : List Frame) (meth : Method) (co : Code) (ls : Array Slot) (Q : State → Prop), MQ below (Qn D base ws0 out) args s mc ms (CD base) = Q → Fi D T p s m args meth co cc maxL own → Iw D base ws0 s [(h0, obj)] s.heap [] → lv_has ls maxL (lv_args 0 [Value.ref h0]) → W p l e ({ frames := f, cells := mc, slots := ms, locals := k } : Room) s m args below meth co s.heap [] 0 0 Q (F0 m 0 ls [])) : CI l y cc maxL f k mc ms D T base ws0 h0 obj out := by
  refine Met.ofW (cc := cc) (maxL := maxL) (ret := none) hy rfl ?_
  intro p e s m args below meth c s₁ B hml hv
  obtain ⟨rfl, h1, h2, h3, h4, h5⟩ := hv
  have hts := atoms_spec (ws := Cond.code y cc maxL none :: gW) B.pre
  have hown : s.vm.findClass y.cls = some m.cls := findClass_of_methodNamed B.named
  have hin : meth.name = "<init>" := (name_of_methodNamed B.named B.method).1.trans hi
  rw [lg_entry_eq]
  exact body p e s m _ below meth c _ _ rfl ⟨⟨B.exec, B.bytes, hml, ho ▸ hown, fun w hw => hts w (List.mem_cons_of_mem _ hw), h4, h5⟩, B.returns, B.notSynchronized, hin⟩ ⟨h2, h3, va_S.rf, h1⟩ (lv_entry [Value.ref h0] hn)
section CJ
variable {p : Program} {l : Launch} {e : Env} {R : Room} {s : State} {m : MethodId} {args : Array Value} {below : List Frame} {meth : Method} {co : Code} {H : Heap} {locs : List Loc} {cells slots : Nat} {Q : State → Prop} {cc : ByteArray} {pc : Nat} {ls : Array Slot} {rest : List Value} {nL : Nat} {own : String} {D : va_G} {T : Nat → ClassId} {base : Nat} {ws0 : va_W}
theorem i_ret {mc ms : Nat} {out : S2 → va_W} (hQ : MQ below (Qn D base ws0 out) args s mc ms (CD base) = Q) (F : Fi D T p s m args meth co cc nL own) (v : S2) (hI : Iw D base ws0 s (out v) H locs) (hc : cells ≤ mc) (hs : slots ≤ ms) (hdg : decode cc pc = .ok (.return_, 1)) : W p l e R s m args below meth co H locs cells slots Q (F0 m pc ls []) := by
  refine W.widen (k := mc) (n := ms) hc hs ?_
  rw [← hQ]
  exact W.vret F.1.1 F.1.2.1 F.2.1 (fun t ht hW => ⟨⟨v, rfl, trivial, by rw [ht]; exact hI.1, hI.2.1⟩, hI.2.2.1.F ht⟩) hI.2.2.1.2.2 hdg F.2.2.1
/-- a call of a constructor: the object stands last -/
theorem i_call (F : Fj D T p s m args co cc nL own) {w0 : va_W} (hI : Iw D base ws0 s w0 H locs) (w : va_W) {q : Nat} {obj : va_E} (hw : w0 = w ++ [(q, obj)]) {lv : List (Nat × Value)} (hl : lv_has ls nL lv) {y : MethodName} {bytes : ByteArray} {maxL f k mc ms idx : Nat} {out : S2 → va_W} (hM : CI l y bytes maxL f k mc ms D T base (ws0 ++ w) q obj out) (hL : LkB own idx y bytes maxL none 0) (hin : Cond.instanceMethod y ∈ gW) (hy : y.name = "<init>") (hR : f + 1 ≤ R.frames ∧ 8 + (maxL + 11) + k ≤ R.locals) (hf : cells + mc ≤ R.cells ∧ slots + ms ≤ R.slots) (hW : (rest.map fun v => v.category).sum ≤ 8) (hdg : decode cc pc = .ok (.invokespecial idx, 3))
    (kk : ∀ (v : S2) (H1 : Heap) (locs1 : List Loc), Iw D base ws0 s (w ++ out v) H1 locs1 → W p l e R s m args below meth co H1 locs1 (cells + mc) (slots + ms) Q (F0 m (pc + 3) ls rest)) : W p l e R s m args below meth co H locs cells slots Q (F0 m pc ls (.ref q :: rest)) := by
  subst hw
  obtain ⟨hl1, h2, h3, h4, h5, h6⟩ := hL
  have ht := F.2.2.2.2.1
  have hPa := hI.1
  have hDa := hI.2.1
  rw [← List.append_assoc] at hPa hDa
  have hp : PreS s H (va_Pc [.ref q] (PreI D T base (ws0 ++ w) [(q, obj)])) [.ref q] := ⟨PreI.blind, fun U hU hWm => ⟨rfl, by rw [hU]; exact Nat.le_trans hI.2.2.2 hI.2.2.1.1, by rw [hU]; exact hPa, hDa, va_K.moved hWm.alike F.2.2.2.2.2.1, F.2.2.2.2.2.2.warm hWm⟩⟩
  have hr : va_Run p l e R s m args below meth co H locs cells slots mc ms (F0 m pc ls (.ref q :: rest)) rest (Qn D base (ws0 ++ w) out [Value.ref q].toArray) (CD base) := by
    rcases hl1 with h1 | ⟨host, h1⟩
    · exact va_runI (As := []) ⟨F.1, F.2.1, F.2.2.1, F.2.2.2.1, ht⟩ hM ⟨callB_of 0 ht (gW_in h3) rfl rfl rfl (ht _ h2) (ht _ h1) ⟨h4, h5, h6⟩ hR, hy, ht _ hin⟩ hp rfl rfl hl.1 rfl (lv_room hW) hdg hf
    · exact va_runIN (As := []) ⟨F.1, F.2.1, F.2.2.1, F.2.2.2.1, ht⟩ hM ⟨va_cnB 0 ht (gW_in h3) rfl rfl rfl (F.2.2.2.2.2.2.1 _ h1) (ht _ h2) ⟨h4, h5, h6⟩ hR, hy, ht _ hin⟩ hp rfl rfl hl.1 rfl (lv_room hW) hdg hf
  refine va_callv hr hI.2.2.1 (fun _ _ h => h) (fun _ h => h) (fun v t H1 locs1 ht1 hvm _ hB hz _ hS => kk v H1 locs1 ⟨?_, ?_, hS, hI.2.2.2⟩)
  · rw [← List.append_assoc, ← ht1]
    exact hB.1
  · rw [← List.append_assoc]
    exact hB.2
end CJ
