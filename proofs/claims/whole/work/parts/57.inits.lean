/-! constructors: the whole world goes through, the object stands behind the rest -/
def CD (base : Nat) : Nat → Prop := fun q => base ≤ q
section CI
variable {p : Program} {l : Launch} {e : Env} {R : Room} {s : State} {m : MethodId} {args : Array Value} {below : List Frame} {meth : Method} {co : Code} {H : Heap} {locs : List Loc} {cells slots : Nat} {Q : State → Prop} {cc : ByteArray} {pc : Nat} {ls : Array Slot} {rest : List Value} {nL : Nat} {own : String} {D : va_G} {base : Nat} {ws0 w : va_W} {tys : List (ClassId × FieldType)}
def Iw (D : va_G) (base : Nat) (ws0 : va_W) (s : State) (w : va_W) (H : Heap) (locs : List Loc) : Prop := va_P D vwCl (ws0 ++ w) H ∧ va_D (CD base) (ws0 ++ w) ∧ va_S (CD base) s.heap H locs ∧ base ≤ s.heap.size
/-- what a constructor's body leans on -/
def Fi (D : va_G) (p : Program) (s : State) (m : MethodId) (args : Array Value) (meth : Method) (co : Code) (cc : ByteArray) (nL : Nat) (own : String) : Prop := p.tables.exec = Jvm.exec ∧ co.code = cc ∧ co.maxLocals = nL ∧ s.vm.findClass own = some m.cls ∧ (∀ w ∈ gW, w.before args s = true) ∧ (∀ w ∈ nestL, va_Nw w s) ∧ meth.sig.returnType = none ∧ meth.locks = false ∧ meth.name = "<init>"
theorem app_at {α : Type} : ∀ (a b : List α) (k : Nat), (a ++ b)[a.length + k]? = b[k]?
  | [], b, k => by
    show b[0 + k]? = b[k]?
    rw [Nat.zero_add]
  | x :: a, b, k => by
    show (x :: (a ++ b))[(a.length + 1) + k]? = b[k]?
    rw [show a.length + 1 + k = (a.length + k) + 1 from by omega, List.getElem?_cons_succ]
    exact app_at a b k
theorem app_set {α : Type} : ∀ (a b : List α) (k : Nat) (v : α), (a ++ b).set (a.length + k) v = a ++ b.set k v
  | [], b, k, v => by
    show b.set (0 + k) v = b.set k v
    rw [Nat.zero_add]
  | x :: a, b, k, v => by
    show (x :: (a ++ b)).set ((a.length + 1) + k) v = x :: (a ++ b.set k v)
    rw [show a.length + 1 + k = (a.length + k) + 1 from by omega, List.set_cons_succ, app_set a b k v]
theorem i_newa (F : Fi D p s m args meth co cc nL own) (hI : Iw D base ws0 s w H locs) (hK : va_K D vwCl tys s) {atype : ArrayType} (harr : Cond.arrayClass (newarray.typeOf atype) ∈ gW) {ty : FieldType} (hty : newarray.typeOf atype = ty) {n N' : Nat} {a0 : vp_A} (ha : ∀ cA : ClassId, vp_cell cA a0 = arrV cA N' (fun _ => defaultValue ty)) (hn : ¬ nI n < 0) (hN : (nI n).toNatClampNeg = N') (hbytes : N' * componentBytes ty ≤ 536870912) (hcells : cells + 1 ≤ R.cells) (hslots : slots + N' ≤ R.slots) (hdg : decode cc pc = .ok (.newarray atype, 2))
    (kk : ∀ (q : Nat) (cA : ClassId) (H1 : Heap), Iw D base ws0 s (w ++ [(q, .inl (cA, a0))]) H1 locs → va_K D vwCl (tys ++ [(cA, ty)]) s → W p l e R s m args below meth co H1 locs (cells + 1) (slots + N') Q (F0 m (pc + 2) ls (.ref q :: rest))) : W p l e R s m args below meth co H locs cells slots Q (F0 m pc ls (.int (nI n) :: rest)) :=
  va_newa F.1 F.2.1 (F.2.2.2.2.1 _ harr) hty hK hI.1 hI.2.1 hI.2.2.1 (fun q h => Nat.le_trans hI.2.2.2 h) ha hn hN hbytes hcells hslots hdg (fun q cA H1 h1 h2 h3 h4 => by
    rw [List.append_assoc] at h2 h3
    exact kk q cA H1 ⟨h2, h3, h4, hI.2.2.2⟩ h1)
theorem i_put {C : String} {T : u_T} {N ci idx : Nat} {ref : String} (F : Fi D p s m args meth co cc nL own) (hI : Iw D base ws0 s w H locs) (hK : va_K D vwCl tys s) (k : Nat) {a : Nat} {fs : List Value} (he : w[k]? = some (a, .inr (ci, fs))) (hc : vwCl[ci]? = some (C, T, N)) (hin : ∀ w ∈ u_ws C T N, w ∈ gW) (ty0 : Nat → FieldType) (hty : ∀ k, k < N → parseFieldDescriptor (T k).2.2.1 = some (ty0 k)) (hnm : ∀ a, a < N → ∀ b, b < N → a ≠ b → (T a).2.1 ≠ (T b).2.1) (j : Nat) (hj : j < N) (hL : Cond.fieldLink own idx ref (T j).2.1 (T j).2.2.1 ∈ gW) (hs : (T j).1 = ref) (hfin : (T j).2.2.2 = false) {ty : FieldType} {v : Value} (hd : parseFieldDescriptor (T j).2.2.1 = some ty) (hn : narrow ty v = v) (hfit : fits ty v = true) (hl : j < fs.length) (hdg : decode cc pc = .ok (.putfield idx, 3))
    (kk : ∀ (H1 : Heap) (locs1 : List Loc), Iw D base ws0 s (w.set k (a, .inr (ci, fs.set j v))) H1 locs1 → W p l e R s m args below meth co H1 locs1 cells slots Q (F0 m (pc + 3) ls rest)) : W p l e R s m args below meth co H locs cells slots Q (F0 m pc ls (v :: .ref a :: rest)) :=
  va_put (ref := ref) F.1 F.2.1 F.2.2.2.2.1 hin ty0 hty hnm F.2.2.2.1 hK hI.1 hI.2.1 hI.2.2.1 (ws0.length + k) (by rw [app_at]; exact he) hc j hj (F.2.2.2.2.1 _ hL) (fun x hx => by rw [← hs]; exact hx) hfin hd hn hfit hl hdg (fun H1 locs1 h1 h2 h3 => by
    rw [app_set] at h1 h2
    exact kk H1 locs1 ⟨h1, h2, h3, hI.2.2.2⟩)
theorem i_putF {C : String} {T : u_T} {N ci idx : Nat} {ref : String} (F : Fi D p s m args meth co cc nL own) (hI : Iw D base ws0 s w H locs) (hK : va_K D vwCl tys s) (k : Nat) {a : Nat} {fs : List Value} (he : w[k]? = some (a, .inr (ci, fs))) (hc : vwCl[ci]? = some (C, T, N)) (hin : ∀ w ∈ u_ws C T N, w ∈ gW) (ty0 : Nat → FieldType) (hty : ∀ k, k < N → parseFieldDescriptor (T k).2.2.1 = some (ty0 k)) (hnm : ∀ a, a < N → ∀ b, b < N → a ≠ b → (T a).2.1 ≠ (T b).2.1) (j : Nat) (hj : j < N) (hL : Cond.fieldLink own idx ref (T j).2.1 (T j).2.2.1 ∈ gW) (hs : (T j).1 = ref) (hfin : (T j).2.2.2 = true) (hdecl : (T j).1 = own) {ty : FieldType} {v : Value} (hd : parseFieldDescriptor (T j).2.2.1 = some ty) (hn : narrow ty v = v) (hfit : fits ty v = true) (hl : j < fs.length) (hdg : decode cc pc = .ok (.putfield idx, 3))
    (kk : ∀ (H1 : Heap) (locs1 : List Loc), Iw D base ws0 s (w.set k (a, .inr (ci, fs.set j v))) H1 locs1 → W p l e R s m args below meth co H1 locs1 cells slots Q (F0 m (pc + 3) ls rest)) : W p l e R s m args below meth co H locs cells slots Q (F0 m pc ls (v :: .ref a :: rest)) :=
  va_putF (ref := ref) F.1 F.2.1 F.2.2.2.2.1 hin ty0 hty hnm F.2.2.2.1 hK hI.1 hI.2.1 hI.2.2.1 (ws0.length + k) (by rw [app_at]; exact he) hc j hj (F.2.2.2.2.1 _ hL) (fun x hx => by rw [← hs]; exact hx) hfin F.2.2.2.2.2.2.2.2 hdecl hd hn hfit hl hdg (fun H1 locs1 h1 h2 h3 => by
    rw [app_set] at h1 h2
    exact kk H1 locs1 ⟨h1, h2, h3, hI.2.2.2⟩)
theorem i_new {C : String} {T : u_T} {N ci idx : Nat} (F : Fi D p s m args meth co cc nL own) (hI : Iw D base ws0 s w H locs) (hK : va_K D vwCl tys s) (hc : vwCl[ci]? = some (C, T, N)) (hin : ∀ w ∈ u_ws C T N, w ∈ gW) (ty : Nat → FieldType) (hty : ∀ k, k < N → parseFieldDescriptor (T k).2.2.1 = some (ty k)) (hcl : Cond.classLink own idx C ∈ gW) (hinst : Cond.instantiable C N ∈ gW) (hini : Cond.initialized C ∈ gW) {fs : List Value} (hfs : ∀ j, j < N → defaultValue (ty j) = vp_V fs j) (hcells : cells + 1 ≤ R.cells) (hslots : slots + N ≤ R.slots) (hdg : decode cc pc = .ok (.new idx, 3))
    (kk : ∀ (q : Nat) (H1 : Heap), Iw D base ws0 s (w ++ [(q, .inr (ci, fs))]) H1 locs → W p l e R s m args below meth co H1 locs (cells + 1) (slots + N) Q (F0 m (pc + 3) ls (.ref q :: rest))) : W p l e R s m args below meth co H locs cells slots Q (F0 m pc ls rest) :=
  va_new F.1 F.2.1 F.2.2.2.2.1 hin ty hty F.2.2.2.1 (F.2.2.2.2.1 _ hcl) (F.2.2.2.2.1 _ hinst) (F.2.2.2.2.1 _ hini) hK hI.1 hI.2.1 hI.2.2.1 (fun q h => Nat.le_trans hI.2.2.2 h) hc hfs hcells hslots hdg (fun q H1 h2 h3 h4 => by
    rw [List.append_assoc] at h2 h3
    exact kk q H1 ⟨h2, h3, h4, hI.2.2.2⟩)
theorem i_get {C : String} {T : u_T} {N ci idx : Nat} {ref : String} (F : Fi D p s m args meth co cc nL own) (hI : Iw D base ws0 s w H locs) (hK : va_K D vwCl tys s) (k : Nat) {a : Nat} {fs : List Value} (he : w[k]? = some (a, .inr (ci, fs))) (hc : vwCl[ci]? = some (C, T, N)) (hin : ∀ w ∈ u_ws C T N, w ∈ gW) (j : Nat) (hj : j < N) (hL : Cond.fieldLink own idx ref (T j).2.1 (T j).2.2.1 ∈ gW) (hs : (T j).1 = ref) {v : Value} (hv : fs[j]? = some v) (hdg : decode cc pc = .ok (.getfield idx, 3)) (kk : W p l e R s m args below meth co H locs cells slots Q (F0 m (pc + 3) ls (v :: rest))) : W p l e R s m args below meth co H locs cells slots Q (F0 m pc ls (.ref a :: rest)) :=
  va_get (ref := ref) F.1 F.2.1 F.2.2.2.2.1 hin F.2.2.2.1 hK hI.1 (ws0.length + k) (by rw [app_at]; exact he) hc j hj (F.2.2.2.2.1 _ hL) (fun x hx => by rw [← hs]; exact hx) hv hdg kk
theorem i_ist (F : Fi D p s m args meth co cc nL own) (hI : Iw D base ws0 s w H locs) (hK : va_K D vwCl tys s) (k t0 : Nat) {a : Nat} {cA : ClassId} {n : Nat} {f : Nat → Int32} (ha : w[k]? = some (a, .inl (cA, n, .inl f))) (ht : tys[t0]? = some (cA, .int)) {i : Nat} {x : Int32} (hin : i < n) (hn : n < 2 ^ 31) (hdg : decode cc pc = .ok (.iastore, 1))
    (kk : ∀ (H1 : Heap) (locs1 : List Loc), Iw D base ws0 s (w.set k (a, .inl (cA, n, .inl (upd f i x)))) H1 locs1 → W p l e R s m args below meth co H1 locs1 cells slots Q (F0 m (pc + 1) ls rest)) : W p l e R s m args below meth co H locs cells slots Q (F0 m pc ls (.int x :: .int (nI i) :: .ref a :: rest)) :=
  va_iast F.1 F.2.1 hK hI.1 hI.2.1 hI.2.2.1 (ws0.length + k) t0 (by rw [app_at]; exact ha) ht (nI_arr hin hn).1 hdg (fun H1 locs1 h1 h2 h3 => by
    rw [app_set, (nI_arr hin hn).2] at h1 h2
    exact kk H1 locs1 ⟨h1, h2, h3, hI.2.2.2⟩)
theorem i_lst (F : Fi D p s m args meth co cc nL own) (hI : Iw D base ws0 s w H locs) (hK : va_K D vwCl tys s) (k t0 : Nat) {a : Nat} {cA : ClassId} {n : Nat} {f : Nat → Int64} (ha : w[k]? = some (a, .inl (cA, n, .inr (.inl f)))) (ht : tys[t0]? = some (cA, .long)) {i : Nat} {x : Int64} (hin : i < n) (hn : n < 2 ^ 31) (hdg : decode cc pc = .ok (.lastore, 1))
    (kk : ∀ (H1 : Heap) (locs1 : List Loc), Iw D base ws0 s (w.set k (a, .inl (cA, n, .inr (.inl (vp_updL f i x))))) H1 locs1 → W p l e R s m args below meth co H1 locs1 cells slots Q (F0 m (pc + 1) ls rest)) : W p l e R s m args below meth co H locs cells slots Q (F0 m pc ls (.long x :: .int (nI i) :: .ref a :: rest)) :=
  va_last F.1 F.2.1 hK hI.1 hI.2.1 hI.2.2.1 (ws0.length + k) t0 (by rw [app_at]; exact ha) ht (nI_arr hin hn).1 hdg (fun H1 locs1 h1 h2 h3 => by
    rw [app_set, (nI_arr hin hn).2] at h1 h2
    exact kk H1 locs1 ⟨h1, h2, h3, hI.2.2.2⟩)
end CI
