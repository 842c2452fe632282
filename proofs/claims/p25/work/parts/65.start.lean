/-- which addresses a list of cells has -/
def own (ws : va_W) : Nat → Prop := fun q => ∃ (k : Nat) (e : va_E), ws[k]? = some (q, e)
theorem start_two {D : va_G} {A : Nat → Prop} {H : Heap} (a c : va_W) (hP : va_P D vwCl ([] ++ (a ++ c)) H) (hD : va_D A ([] ++ (a ++ c))) : va_P D vwCl a H ∧ va_P D vwCl c H ∧ va_D (own a) a ∧ va_D (own c) c ∧ (∀ q, own a q → ¬ own c q) ∧ (∀ q, own a q → A q) ∧ ∀ q, own c q → A q := by
  have hP : va_P D vwCl (a ++ c) H := hP
  have hD : va_D A (a ++ c) := hD
  have l1 : ∀ {k : Nat} {q : Nat × va_E}, a[k]? = some q → (a ++ c)[k]? = some q := fun {k q} h => by
    rw [List.getElem?_append_left (List.getElem?_eq_some_iff.mp h).1]
    exact h
  have l2 : ∀ {k : Nat} {q : Nat × va_E}, c[k]? = some q → (a ++ c)[a.length + k]? = some q := fun {k q} h => by
    rw [app_at]
    exact h
  refine ⟨fun k q h => hP k q (l1 h), fun k q h => hP _ q (l2 h), ⟨fun i j x y hi hj e => hD.1 i j x y (l1 hi) (l1 hj) e, fun k q h => ⟨k, q.2, h⟩⟩, ⟨fun i j x y hi hj e => ?_, fun k q h => ⟨k, q.2, h⟩⟩, ?_, ?_, ?_⟩
  · have := hD.1 _ _ x y (l2 hi) (l2 hj) e
    omega
  · rintro q ⟨i, e, hi⟩ ⟨j, e2, hj⟩
    have h1 := hD.1 _ _ _ _ (l1 hi) (l2 hj) rfl
    have h2 := (List.getElem?_eq_some_iff.mp hi).1
    omega
  · rintro q ⟨i, e, hi⟩
    exact hD.2 _ _ (l1 hi)
  · rintro q ⟨i, e, hi⟩
    exact hD.2 _ _ (l2 hi)
/-- the state at the start -/
def X0 : XS := ((0, 256, fun _ => (0, 0, 0, 0)), (0, fun _ => (0, 256, fun _ => (0, 0, 0, 0))), (0, (0, 256, fun _ => (0, 0, 0, 0))), (0, fun _ => 0))
theorem X0_ok : XOk X0 := ⟨⟨by decide, by decide, by decide, fun j hj => absurd hj (Nat.not_lt_zero j)⟩, ⟨by decide, fun i hi => absurd hi (Nat.not_lt_zero i)⟩, ⟨by decide, fun e => absurd e (by decide)⟩, by decide, fun i hi => absurd hi (Nat.not_lt_zero i)⟩
def u0 : SS := (fun q _ => if q = 1 then nI 256 else 0, fun _ _ => 0)
theorem u0_rep : RepC u0.1 X0 ∧ Rl X0 X0 :=
  ⟨⟨⟨rfl, rfl, fun j hj => absurd hj (Nat.not_lt_zero j)⟩, ⟨0, by decide, rfl, rfl, fun i hi => absurd hi (Nat.not_lt_zero i)⟩, ⟨rfl, fun e => absurd e (by decide)⟩, ⟨rfl, by decide, fun i hi => absurd hi (Nat.not_lt_zero i)⟩⟩, X0_ok, X0_ok, by decide, rfl, rfl, fun k hk => absurd hk (Nat.not_lt_zero k)⟩
def afS (q5 : Nat) (v : S2) : Nat → Nat := fun k => ([q5, v.1 9, v.1 10, v.1 23, v.1 24, v.1 25, v.1 26, v.1 27, v.1 28, v.1 29, v.1 0, v.1 1, v.1 2, v.1 3, v.1 4, v.1 5, v.1 6, v.1 7, v.1 8, v.1 11, v.1 12, v.1 13, v.1 14, v.1 15, v.1 16, v.1 17, v.1 18, v.1 19, v.1 20, v.1 21, v.1 22, v.1 30, v.2 0, v.2 1, v.2 2, v.2 3, v.2 4, v.2 5, v.2 6, v.2 7, v.2 8, v.2 9, v.2 10, v.2 11, v.2 12, v.2 13, v.2 14, v.2 15] : List Nat).getD k 0
theorem va_P.cell {D : va_G} {cl : List vw_C} {ws : va_W} {H : Heap} (h : va_P D cl ws H) {k a : Nat} {c : ClassId} {z z' : vp_A} (hk : ws[k]? = some (a, .inl (c, z))) (he : vp_cell c z = vp_cell c z') : va_P D cl (ws.set k (a, .inl (c, z'))) H := by
  intro j x hj
  by_cases e : k = j
  · subst e
    rw [List.getElem?_set_self (List.getElem?_eq_some_iff.mp hk).1] at hj
    cases hj
    have h9 : H[a]? = some (vp_cell c z) := h k _ hk
    show H[a]? = some (vp_cell c z')
    rw [← he]
    exact h9
  · rw [List.getElem?_set_ne e] at hj
    exact h j x hj
set_option maxHeartbeats 4000000 in
set_option maxRecDepth 100000 in
theorem start_world {D : va_G} {T : Nat → ClassId} {q5 : Nat} {v : S2} {sf : Nat → Nat} {H : Heap} (hP : va_P D vwCl (outX5 T q5 v) H) (hD : va_D (own (outX5 T q5 v)) (outX5 T q5 v)) : Sw (D, T, afS q5 v, own (outX5 T q5 v), sf) u0 H := by
  have hP0 : va_P D vwCl [(q5, .inr (5, [.ref (v.1 0), .ref (v.1 3), .int (nI 0), .ref (v.1 6), .ref (v.1 9), .ref (v.1 23), .ref (v.1 25), .ref (v.1 29)])), ((v.1 9), .inr (3, [.ref (v.1 10), .int (nI 0), .int (nI 0)])), ((v.1 10), .inl (T 3, 4, .inr (.inr (.inr (.inr (va_up (va_up (va_up (va_up (fun _ => none) 0 (some (v.1 11))) 1 (some (v.1 14))) 2 (some (v.1 17))) 3 (some (v.1 20)))))))), ((v.1 23), .inr (1, [.ref (v.1 24), .int (nI 0), .int (nI 0)])), ((v.1 24), .inl (T 1, 80, .inl (fun _ => 0))), ((v.1 25), .inr (2, [.ref (v.1 26), .ref (v.1 27), .ref (v.1 28)])), ((v.1 26), .inl (T 0, 16, .inl (fun _ => 0))), ((v.1 27), .inl (T 0, 16, .inl (fun _ => 0))), ((v.1 28), .inl (T 0, 16, .inl (fun _ => 0))), ((v.1 29), .inr (4, [.ref (v.1 30)])), ((v.1 0), .inr (0, [.int (nI 256), .int (nI 0), .ref (v.1 1), .ref (v.1 2)])), ((v.1 1), .inl (T 0, 16, .inl (fun _ => 0))), ((v.1 2), .inl (T 0, 48, .inl (fun _ => 0))), ((v.1 3), .inr (0, [.int (nI 256), .int (nI 0), .ref (v.1 4), .ref (v.1 5)])), ((v.1 4), .inl (T 0, 16, .inl (fun _ => 0))), ((v.1 5), .inl (T 0, 48, .inl (fun _ => 0))), ((v.1 6), .inr (0, [.int (nI 256), .int (nI 0), .ref (v.1 7), .ref (v.1 8)])), ((v.1 7), .inl (T 0, 16, .inl (fun _ => 0))), ((v.1 8), .inl (T 0, 48, .inl (fun _ => 0))), ((v.1 11), .inr (0, [.int (nI 256), .int (nI 0), .ref (v.1 12), .ref (v.1 13)])), ((v.1 12), .inl (T 0, 16, .inl (fun _ => 0))), ((v.1 13), .inl (T 0, 48, .inl (fun _ => 0))), ((v.1 14), .inr (0, [.int (nI 256), .int (nI 0), .ref (v.1 15), .ref (v.1 16)])), ((v.1 15), .inl (T 0, 16, .inl (fun _ => 0))), ((v.1 16), .inl (T 0, 48, .inl (fun _ => 0))), ((v.1 17), .inr (0, [.int (nI 256), .int (nI 0), .ref (v.1 18), .ref (v.1 19)])), ((v.1 18), .inl (T 0, 16, .inl (fun _ => 0))), ((v.1 19), .inl (T 0, 48, .inl (fun _ => 0))), ((v.1 20), .inr (0, [.int (nI 256), .int (nI 0), .ref (v.1 21), .ref (v.1 22)])), ((v.1 21), .inl (T 0, 16, .inl (fun _ => 0))), ((v.1 22), .inl (T 0, 48, .inl (fun _ => 0))), ((v.1 30), .inl (T 4, 16, .inr (.inr (.inr (.inr (fun i => if i < 16 then some (v.2 i) else none)))))), ((v.2 0), .inl (T 2, 16, .inr (.inl (fun _ => 0)))), ((v.2 1), .inl (T 2, 16, .inr (.inl (fun _ => 0)))), ((v.2 2), .inl (T 2, 16, .inr (.inl (fun _ => 0)))), ((v.2 3), .inl (T 2, 16, .inr (.inl (fun _ => 0)))), ((v.2 4), .inl (T 2, 16, .inr (.inl (fun _ => 0)))), ((v.2 5), .inl (T 2, 16, .inr (.inl (fun _ => 0)))), ((v.2 6), .inl (T 2, 16, .inr (.inl (fun _ => 0)))), ((v.2 7), .inl (T 2, 16, .inr (.inl (fun _ => 0)))), ((v.2 8), .inl (T 2, 16, .inr (.inl (fun _ => 0)))), ((v.2 9), .inl (T 2, 16, .inr (.inl (fun _ => 0)))), ((v.2 10), .inl (T 2, 16, .inr (.inl (fun _ => 0)))), ((v.2 11), .inl (T 2, 16, .inr (.inl (fun _ => 0)))), ((v.2 12), .inl (T 2, 16, .inr (.inl (fun _ => 0)))), ((v.2 13), .inl (T 2, 16, .inr (.inl (fun _ => 0)))), ((v.2 14), .inl (T 2, 16, .inr (.inl (fun _ => 0)))), ((v.2 15), .inl (T 2, 16, .inr (.inl (fun _ => 0))))] H := hP.sub [0, 10, 11, 24, 25, 26, 27, 28, 29, 30, 1, 2, 3, 4, 5, 6, 7, 8, 9, 12, 13, 14, 15, 16, 17, 18, 19, 20, 21, 22, 23, 31, 32, 33, 34, 35, 36, 37, 38, 39, 40, 41, 42, 43, 44, 45, 46, 47] rfl
  have hD0 : va_D (own (outX5 T q5 v)) [(q5, .inr (5, [.ref (v.1 0), .ref (v.1 3), .int (nI 0), .ref (v.1 6), .ref (v.1 9), .ref (v.1 23), .ref (v.1 25), .ref (v.1 29)])), ((v.1 9), .inr (3, [.ref (v.1 10), .int (nI 0), .int (nI 0)])), ((v.1 10), .inl (T 3, 4, .inr (.inr (.inr (.inr (va_up (va_up (va_up (va_up (fun _ => none) 0 (some (v.1 11))) 1 (some (v.1 14))) 2 (some (v.1 17))) 3 (some (v.1 20)))))))), ((v.1 23), .inr (1, [.ref (v.1 24), .int (nI 0), .int (nI 0)])), ((v.1 24), .inl (T 1, 80, .inl (fun _ => 0))), ((v.1 25), .inr (2, [.ref (v.1 26), .ref (v.1 27), .ref (v.1 28)])), ((v.1 26), .inl (T 0, 16, .inl (fun _ => 0))), ((v.1 27), .inl (T 0, 16, .inl (fun _ => 0))), ((v.1 28), .inl (T 0, 16, .inl (fun _ => 0))), ((v.1 29), .inr (4, [.ref (v.1 30)])), ((v.1 0), .inr (0, [.int (nI 256), .int (nI 0), .ref (v.1 1), .ref (v.1 2)])), ((v.1 1), .inl (T 0, 16, .inl (fun _ => 0))), ((v.1 2), .inl (T 0, 48, .inl (fun _ => 0))), ((v.1 3), .inr (0, [.int (nI 256), .int (nI 0), .ref (v.1 4), .ref (v.1 5)])), ((v.1 4), .inl (T 0, 16, .inl (fun _ => 0))), ((v.1 5), .inl (T 0, 48, .inl (fun _ => 0))), ((v.1 6), .inr (0, [.int (nI 256), .int (nI 0), .ref (v.1 7), .ref (v.1 8)])), ((v.1 7), .inl (T 0, 16, .inl (fun _ => 0))), ((v.1 8), .inl (T 0, 48, .inl (fun _ => 0))), ((v.1 11), .inr (0, [.int (nI 256), .int (nI 0), .ref (v.1 12), .ref (v.1 13)])), ((v.1 12), .inl (T 0, 16, .inl (fun _ => 0))), ((v.1 13), .inl (T 0, 48, .inl (fun _ => 0))), ((v.1 14), .inr (0, [.int (nI 256), .int (nI 0), .ref (v.1 15), .ref (v.1 16)])), ((v.1 15), .inl (T 0, 16, .inl (fun _ => 0))), ((v.1 16), .inl (T 0, 48, .inl (fun _ => 0))), ((v.1 17), .inr (0, [.int (nI 256), .int (nI 0), .ref (v.1 18), .ref (v.1 19)])), ((v.1 18), .inl (T 0, 16, .inl (fun _ => 0))), ((v.1 19), .inl (T 0, 48, .inl (fun _ => 0))), ((v.1 20), .inr (0, [.int (nI 256), .int (nI 0), .ref (v.1 21), .ref (v.1 22)])), ((v.1 21), .inl (T 0, 16, .inl (fun _ => 0))), ((v.1 22), .inl (T 0, 48, .inl (fun _ => 0))), ((v.1 30), .inl (T 4, 16, .inr (.inr (.inr (.inr (fun i => if i < 16 then some (v.2 i) else none)))))), ((v.2 0), .inl (T 2, 16, .inr (.inl (fun _ => 0)))), ((v.2 1), .inl (T 2, 16, .inr (.inl (fun _ => 0)))), ((v.2 2), .inl (T 2, 16, .inr (.inl (fun _ => 0)))), ((v.2 3), .inl (T 2, 16, .inr (.inl (fun _ => 0)))), ((v.2 4), .inl (T 2, 16, .inr (.inl (fun _ => 0)))), ((v.2 5), .inl (T 2, 16, .inr (.inl (fun _ => 0)))), ((v.2 6), .inl (T 2, 16, .inr (.inl (fun _ => 0)))), ((v.2 7), .inl (T 2, 16, .inr (.inl (fun _ => 0)))), ((v.2 8), .inl (T 2, 16, .inr (.inl (fun _ => 0)))), ((v.2 9), .inl (T 2, 16, .inr (.inl (fun _ => 0)))), ((v.2 10), .inl (T 2, 16, .inr (.inl (fun _ => 0)))), ((v.2 11), .inl (T 2, 16, .inr (.inl (fun _ => 0)))), ((v.2 12), .inl (T 2, 16, .inr (.inl (fun _ => 0)))), ((v.2 13), .inl (T 2, 16, .inr (.inl (fun _ => 0)))), ((v.2 14), .inl (T 2, 16, .inr (.inl (fun _ => 0)))), ((v.2 15), .inl (T 2, 16, .inr (.inl (fun _ => 0))))] := hD.sub [0, 10, 11, 24, 25, 26, 27, 28, 29, 30, 1, 2, 3, 4, 5, 6, 7, 8, 9, 12, 13, 14, 15, 16, 17, 18, 19, 20, 21, 22, 23, 31, 32, 33, 34, 35, 36, 37, 38, 39, 40, 41, 42, 43, 44, 45, 46, 47] (by decide) rfl
  have hP1 := va_P.cell hP0 (k := 2) (c := T 3) (z := (4, .inr (.inr (.inr (.inr (va_up (va_up (va_up (va_up (fun _ => none) 0 (some (v.1 11))) 1 (some (v.1 14))) 2 (some (v.1 17))) 3 (some (v.1 20)))))))) (z' := (4, .inr (.inr (.inr (.inr (fun i => some (eA ((D, T, afS q5 v, own (outX5 T q5 v), sf) : EV) (19 + 3 * i)))))))) rfl (by
    rw [vp_cell_q, vp_cell_q]
    refine arrV_cg fun j hj => ?_
    match j, hj with
    | 0, _ => rfl
    | 1, _ => rfl
    | 2, _ => rfl
    | 3, _ => rfl
    | j + 4, h => exact absurd h (by omega))
  have hD1 := va_D.set (p := 2) (e := .inl (T 3, 4, .inr (.inr (.inr (.inr (fun i => some (eA ((D, T, afS q5 v, own (outX5 T q5 v), sf) : EV) (19 + 3 * i)))))))) hD0 rfl
  have hP2 := va_P.cell hP1 (k := 31) (c := T 4) (z := (16, .inr (.inr (.inr (.inr (fun i => if i < 16 then some (v.2 i) else none)))))) (z' := (16, .inr (.inr (.inr (.inr (fun i => some (eA ((D, T, afS q5 v, own (outX5 T q5 v), sf) : EV) (32 + i)))))))) rfl (by
    rw [vp_cell_q, vp_cell_q]
    refine arrV_cg fun j hj => ?_
    match j, hj with
    | 0, _ => rfl
    | 1, _ => rfl
    | 2, _ => rfl
    | 3, _ => rfl
    | 4, _ => rfl
    | 5, _ => rfl
    | 6, _ => rfl
    | 7, _ => rfl
    | 8, _ => rfl
    | 9, _ => rfl
    | 10, _ => rfl
    | 11, _ => rfl
    | 12, _ => rfl
    | 13, _ => rfl
    | 14, _ => rfl
    | 15, _ => rfl
    | j + 16, h => exact absurd h (by omega))
  have hD2 := va_D.set (p := 31) (e := .inl (T 4, 16, .inr (.inr (.inr (.inr (fun i => some (eA ((D, T, afS q5 v, own (outX5 T q5 v), sf) : EV) (32 + i)))))))) hD1 rfl
  exact ⟨hP2, hD2⟩
def flS : List Cond := flatC (Cond.and given_1 narrow_1)
theorem fl_el0 : ∀ j, j < 7 → Cond.eq (.elem (Term.static "ShareStreams" "NUMBERS_OF_KIND" "[I") (.int (Int32.ofNat j))) (.int (tblF 0 j)) ∈ flS := by decide +kernel
theorem fl_ar0 : Cond.arrayOf (Term.static "ShareStreams" "NUMBERS_OF_KIND" "[I") .int ∈ flS ∧ Cond.eq (.length (Term.static "ShareStreams" "NUMBERS_OF_KIND" "[I")) (.int (Int32.ofNat 7)) ∈ flS := by decide +kernel
theorem fl_el1 : ∀ j, j < 7 → Cond.eq (.elem (Term.static "ShareStreams" "LINES_OF_KIND" "[I") (.int (Int32.ofNat j))) (.int (tblF 1 j)) ∈ flS := by decide +kernel
theorem fl_ar1 : Cond.arrayOf (Term.static "ShareStreams" "LINES_OF_KIND" "[I") .int ∈ flS ∧ Cond.eq (.length (Term.static "ShareStreams" "LINES_OF_KIND" "[I")) (.int (Int32.ofNat 7)) ∈ flS := by decide +kernel
set_option maxHeartbeats 4000000 in
set_option maxRecDepth 100000 in
theorem start_KK {s : State} {b : Nat} (hts : ∀ w ∈ lw_tbl, w.before #[Value.ref b] s = true) (hgv : (Cond.and given_1 narrow_1).before #[Value.ref b] s = true) {D : va_G} {T : Nat → ClassId} (af : Nat → Nat) (hK : va_K D vwCl (tyT T) s) : ∃ sf : Nat → Nat, KK (D, T, af, CD s.heap.size, sf) s := by
  have hA : ∀ a : Nat, a < s.heap.size → ¬ CD s.heap.size a := fun a h => Nat.not_le.mpr h
  have hs : ∀ c ∈ flS, c.before #[Value.ref b] s = true := flat_of_before _ hgv
  obtain ⟨t0, e0, T0⟩ := va_Tof (A := CD s.heap.size) (tm := .static "ShareStreams" "NUMBERS_OF_KIND" "[I") (ty := .int) (N := 7) (f := fun j => .int (tblF 0 j)) (by decide) (hs _ fl_ar0.1) (va_eqt (hs _ fl_ar0.2)) (fun j hj => va_eqt (hs _ (fl_el0 j hj))) hA
  obtain ⟨t1, e1, T1⟩ := va_Tof (A := CD s.heap.size) (tm := .static "ShareStreams" "LINES_OF_KIND" "[I") (ty := .int) (N := 7) (f := fun j => .int (tblF 1 j)) (by decide) (hs _ fl_ar1.1) (va_eqt (hs _ fl_ar1.2)) (fun j hj => va_eqt (hs _ (fl_el1 j hj))) hA
  have Z0 := va_Zref (A := CD s.heap.size) (hts _ (List.mem_append_right _ (List.mem_of_getElem? (i := 363) (by decide +kernel)))) (hts _ (List.mem_append_right _ (List.mem_of_getElem? (i := 1) (by decide +kernel)))) e0 hA
  have Z1 := va_Zref (A := CD s.heap.size) (hts _ (List.mem_append_right _ (List.mem_of_getElem? (i := 193) (by decide +kernel)))) (hts _ (List.mem_append_right _ (List.mem_of_getElem? (i := 1) (by decide +kernel)))) e1 hA
  exact ⟨fun k => if k = 0 then t0 else t1, hK, fun w hw => nest_of (nestL_nest w hw) (hts w (nestL_in w hw)), ⟨Z0, T0⟩, ⟨Z1, T1⟩, trivial⟩
set_option maxHeartbeats 4000000 in
set_option maxRecDepth 100000 in
theorem whole_start {p : Program} {e : Env} {s : State} {m : MethodId} {below : List Frame} {meth : Method} {c : Code} (l : Launch) (hflags : l.flags = flags0) {b L : Nat} {xs : Nat → Int32} (hL : L ≤ 260) (C0 : lw_At p s m meth c b L xs) : W p l e room_1 s m #[Value.ref b] below meth c s.heap [] 0 0 (lw_Z below #[Value.ref b] s) (entryFrame m ([Value.ref b] : List Value).toArray 5) := by
  obtain ⟨hx, hy, hr, hml, hown, hts, hX, hbl, hlocks, hgv⟩ := id C0
  obtain ⟨c0, i0, hKn0⟩ := u_known (C := RX0) (T := TX0) (N := 4) (n := 4) hts (fun w hw => gW_tbl (inlX0 w hw)) (hts _ (List.mem_append_right _ (List.mem_of_getElem? (i := 19) (by decide +kernel))))
  obtain ⟨c1, i1, hKn1⟩ := u_known (C := RX1) (T := TX1) (N := 3) (n := 3) hts (fun w hw => gW_tbl (inlX1 w hw)) (hts _ (List.mem_append_right _ (List.mem_of_getElem? (i := 62) (by decide +kernel))))
  obtain ⟨c2, i2, hKn2⟩ := u_known (C := RX2) (T := TX2) (N := 3) (n := 3) hts (fun w hw => gW_tbl (inlX2 w hw)) (hts _ (List.mem_append_right _ (List.mem_of_getElem? (i := 80) (by decide +kernel))))
  obtain ⟨c3, i3, hKn3⟩ := u_known (C := RX3) (T := TX3) (N := 3) (n := 3) hts (fun w hw => gW_tbl (inlX3 w hw)) (hts _ (List.mem_append_right _ (List.mem_of_getElem? (i := 42) (by decide +kernel))))
  obtain ⟨c4, i4, hKn4⟩ := u_known (C := RX4) (T := TX4) (N := 1) (n := 1) hts (fun w hw => gW_tbl (inlX4 w hw)) (hts _ (List.mem_append_right _ (List.mem_of_getElem? (i := 96) (by decide +kernel))))
  obtain ⟨c5, i5, hKn5⟩ := u_known (C := RX5) (T := TX5) (N := 8) (n := 8) hts (fun w hw => gW_tbl (inlX5 w hw)) (hts _ (List.mem_append_right _ (List.mem_of_getElem? (i := 11) (by decide +kernel))))
  obtain ⟨D, hD⟩ : ∃ D : va_G, ∀ (k : Nat) (q : vw_C), vwCl[k]? = some q → u_Kn s q.1 q.2.1 q.2.2 (D.1 k) (D.2 k) := by
    refine ⟨(fun k => [c0, c1, c2, c3, c4, c5].getD k c0, fun k => [i0, i1, i2, i3, i4, i5].getD k i0), fun k q hq => ?_⟩
    match k, hq with
    | 0, hq => cases hq; exact hKn0
    | 1, hq => cases hq; exact hKn1
    | 2, hq => cases hq; exact hKn2
    | 3, hq => cases hq; exact hKn3
    | 4, hq => cases hq; exact hKn4
    | 5, hq => cases hq; exact hKn5
    | k + 6, hq => simp [vwCl] at hq
  have hNx : Nx s := ⟨fun w hw => nest_of (nestL_nest w hw) (hts w (nestL_in w hw)), va_AO.of (hts _ (List.mem_append_right _ (List.mem_of_getElem? (i := 48) (by decide +kernel)))), va_AOA.of (hts _ (List.mem_append_right _ (List.mem_of_getElem? (i := 102) (by decide +kernel))))⟩
  obtain ⟨T0, hT0, hA0⟩ := arrL (ty := .int) (hts _ (List.mem_append_right _ (List.mem_of_getElem? (i := 40) (by decide +kernel))))
  obtain ⟨T1, hT1, hA1⟩ := arrL (ty := .char) (hts _ (List.mem_append_right _ (List.mem_of_getElem? (i := 78) (by decide +kernel))))
  obtain ⟨T2, hT2, hA2⟩ := arrL (ty := .long) (hts _ (List.mem_append_right _ (List.mem_of_getElem? (i := 107) (by decide +kernel))))
  obtain ⟨p3, T3, k3, f31, f32, f33, f34, f35⟩ := Cond.arrayOver_spec hNx.2.1
  obtain ⟨p4, T4, k4, f41, f42, f43, f44⟩ := ao_spec hNx.2.2
  obtain ⟨T, hT⟩ : ∃ T : Nat → ClassId, ∀ (k : Nat) (q : ClassId × FieldType), (tyT T)[k]? = some q → ArrOfT s q.1 q.2 ∧ va_RA s q.1 q.2 := by
    refine ⟨fun k => [T0, T1, T2, T3, T4].getD k T0, fun k q hq => ?_⟩
    match k, hq with
    | 0, hq => cases hq; exact ⟨hA0, hT0⟩
    | 1, hq => cases hq; exact ⟨hA1, hT1⟩
    | 2, hq => cases hq; exact ⟨hA2, hT2⟩
    | 3, hq => cases hq; exact ⟨fun n z => ⟨fun k h => (by cases h), k3, f33, p3, f34⟩, k3, p3, f33, f34, f31, f35⟩
    | 4, hq => cases hq; exact ⟨fun n z => ⟨fun k h => (by cases h), k4, f42, p4, f43⟩, f44⟩
    | k + 5, hq => simp [tyT] at hq
  have hK : va_K D vwCl (tyT T) s := ⟨hD, hT⟩
  have F : Fj D T p s m #[Value.ref b] c cL_law 5 RL := ⟨hx, hy, hml, hown, fun w hw => hts w (gW_tbl hw), hK, hNx⟩
  have hI : Iw D s.heap.size [] s [] s.heap [] := ⟨fun k q h => by simp at h, ⟨fun i j p q h => by simp at h, fun k q h => by simp at h⟩, va_S.rf, Nat.le_refl _⟩
  rw [lg_entry_eq]
  have hl := lv_entry ([.ref b]) (n := 5) (Nat.le_of_ble_eq_true rfl)
  generalize (lg_sl ([.ref b]) ++ List.replicate (5 - (lg_sl ([.ref b])).length) Slot.unset).toArray = ls at hl ⊢
  have hl : lv_has ls 5 [(0, .ref b)] := hl
  refine i_new F hI (C := RX5) (Tf := TX5) (N := 8) (ci := 5) rfl inlX5 tyX5 tyX5_ok (gW_t (List.mem_of_getElem? (i := 10) (by decide +kernel)) (by decide +kernel)) (gW_t (List.mem_of_getElem? (i := 11) (by decide +kernel)) (by decide +kernel)) (gW_t (List.mem_of_getElem? (i := 1) (by decide +kernel)) (by decide +kernel)) (fs := [.null, .null, .int (nI 0), .null, .null, .null, .null, .null]) (fun j hj => by rcases (show j = 0 ∨ j = 1 ∨ j = 2 ∨ j = 3 ∨ j = 4 ∨ j = 5 ∨ j = 6 ∨ j = 7 by omega) with rfl | rfl | rfl | rfl | rfl | rfl | rfl | rfl <;> rfl) (Nat.le_of_ble_eq_true rfl) (Nat.le_of_ble_eq_true rfl) dL_law_0 (fun q5 H hI => ?_)
  refine lv_dup hx hy dL_law_3 rfl ?_
  refine i_call F hI [] rfl hl (iX5 l D T s.heap.size ([] ++ []) q5) ⟨Or.inl (gW_t (List.mem_of_getElem? (i := 12) (by decide +kernel)) (by decide +kernel)), gW_t (List.mem_of_getElem? (i := 1) (by decide +kernel)) (by decide +kernel), gW_t (List.mem_of_getElem? (i := 14) (by decide +kernel)) (by decide +kernel), by decide +kernel, by decide +kernel, by decide +kernel⟩ (gW_t (List.mem_of_getElem? (i := 13) (by decide +kernel)) (by decide +kernel)) rfl ⟨Nat.le_of_ble_eq_true rfl, Nat.le_of_ble_eq_true rfl⟩ ⟨Nat.le_of_ble_eq_true rfl, Nat.le_of_ble_eq_true rfl⟩ (Nat.le_of_ble_eq_true rfl) dL_law_4 (fun v5 H locs hI => ?_)
  refine lv_astore_n (lv' := [(1, .ref q5), (0, .ref b)]) hx hy dL_law_7 rfl hl (by decide) rfl (fun ls hl => ?_)
  refine i_new F hI (C := RX5) (Tf := TX5) (N := 8) (ci := 5) rfl inlX5 tyX5 tyX5_ok (gW_t (List.mem_of_getElem? (i := 10) (by decide +kernel)) (by decide +kernel)) (gW_t (List.mem_of_getElem? (i := 11) (by decide +kernel)) (by decide +kernel)) (gW_t (List.mem_of_getElem? (i := 1) (by decide +kernel)) (by decide +kernel)) (fs := [.null, .null, .int (nI 0), .null, .null, .null, .null, .null]) (fun j hj => by rcases (show j = 0 ∨ j = 1 ∨ j = 2 ∨ j = 3 ∨ j = 4 ∨ j = 5 ∨ j = 6 ∨ j = 7 by omega) with rfl | rfl | rfl | rfl | rfl | rfl | rfl | rfl <;> rfl) (Nat.le_of_ble_eq_true rfl) (Nat.le_of_ble_eq_true rfl) dL_law_8 (fun q6 H hI => ?_)
  refine lv_dup hx hy dL_law_11 rfl ?_
  refine i_call F hI (outX5 T q5 v5) rfl hl (iX5 l D T s.heap.size ([] ++ outX5 T q5 v5) q6) ⟨Or.inl (gW_t (List.mem_of_getElem? (i := 12) (by decide +kernel)) (by decide +kernel)), gW_t (List.mem_of_getElem? (i := 1) (by decide +kernel)) (by decide +kernel), gW_t (List.mem_of_getElem? (i := 14) (by decide +kernel)) (by decide +kernel), by decide +kernel, by decide +kernel, by decide +kernel⟩ (gW_t (List.mem_of_getElem? (i := 13) (by decide +kernel)) (by decide +kernel)) rfl ⟨Nat.le_of_ble_eq_true rfl, Nat.le_of_ble_eq_true rfl⟩ ⟨Nat.le_of_ble_eq_true rfl, Nat.le_of_ble_eq_true rfl⟩ (Nat.le_of_ble_eq_true rfl) dL_law_12 (fun v6 H locs hI => ?_)
  refine lv_astore_n (lv' := [(2, .ref q6), (1, .ref q5), (0, .ref b)]) hx hy dL_law_15 rfl hl (by decide) rfl (fun ls hl => ?_)
  obtain ⟨sf, hKK⟩ := start_KK hts hgv (afS q5 v5) hK
  obtain ⟨hPa, hPb, hDa, hDb, hab, hra, hrb⟩ := start_two (outX5 T q5 v5) (outX5 T q6 v6) hI.1 hI.2.1
  have hS1 : Sw (D, T, afS q5 v5, own (outX5 T q5 v5), sf) u0 H := start_world hPa hDa
  have hS2 : Sw (D, T, afS q6 v6, own (outX5 T q6 v6), sf) u0 H := start_world hPb hDb
  refine W.widen (k := 600000) (n := 7302250) (Nat.le_of_ble_eq_true rfl) (Nat.le_of_ble_eq_true rfl) ?_
  have hB : Scp (D, T, afS q5 v5, CD s.heap.size, sf) s b L xs := ⟨hX, hbl, Nat.not_le.mpr hbl, hL⟩
  have hTw : Two (D, T, afS q5 v5, CD s.heap.size, sf) (D, T, afS q5 v5, own (outX5 T q5 v5), sf) (D, T, afS q6 v6, own (outX5 T q6 v6), sf) := ⟨⟨rfl, rfl, rfl, hra⟩, ⟨rfl, rfl, rfl, hrb⟩, hab⟩
  exact law_loop (E0 := (D, T, afS q5 v5, CD s.heap.size, sf)) (E1 := (D, T, afS q5 v5, own (outX5 T q5 v5), sf)) (E2 := (D, T, afS q6 v6, own (outX5 T q6 v6), sf)) ⟨hx, hy, hml, hown, fun w hw => hts w (gW_tbl hw), hKK, hr, hlocks⟩ hTw hB (Nat.le_refl _) (Nat.le_refl _) (fun H locs ls pc hS hdg => va_forget (fun q hq => hS.2.2 q hq) (lw_ret hx hy hr hlocks hdg)) u0_rep.1 u0_rep.1 u0_rep.2 ⟨⟨hS1, hS2⟩, hI.2.2.1⟩ (lv_sub hl [2, 1, 0] rfl)
