theorem and_max (x : Int32) : ∃ n, n < 2147483648 ∧ x &&& nI 2147483647 = nI n := by
  refine ⟨(x &&& nI 2147483647).toBitVec.toNat, ?_, ?_⟩
  · have h1 : (x &&& nI 2147483647).toBitVec = x.toBitVec &&& 2147483647#32 := rfl
    rw [h1, BitVec.toNat_and]
    exact Nat.lt_of_le_of_lt Nat.and_le_right (by decide)
  · apply Int32.toBitVec_inj.mp
    show _ = BitVec.ofNat 32 _
    simp
theorem nI_nz {n : Nat} (h : 1 ≤ n) (h2 : n < 1073741824) : ¬ nI n = 0 := fun q => absurd ((nI_eq (a := n) (b := 0) (by omega) (by omega)).mp q) (by omega)
set_option maxHeartbeats 400000 in
set_option maxRecDepth 100000 in
theorem kL_up (l : Launch) (E : EV) (u : SS) (x : Int32) (n : Nat) (h1 : 1 ≤ n) (hn : n < 1073741824) : CT l yL_up cL_up 2 (some .int) (Rm 0 0) [.int (x), .int (nI n)] E u (Q_i E (fun r _ => ∃ j, j < n ∧ r = nI j) (fun (_ : Unit) => u)) := by
  refine mstart RL (by decide +kernel) rfl (Nat.le_of_ble_eq_true rfl) ?_
  intro p e s m args below meth co ls Q hQ F hI hl
  have hx := F.1
  have hy := F.2.1
  have hl : lv_has ls 2 [(0, .int (x)), (1, .int (nI n))] := hl
  refine lv_iload_n hx hy dL_up_0 rfl (lv_at hl 0 rfl) ?_
  refine zc F K_L_8 dL_up_1 ?_
  refine tI (show _ = nI 2147483647 from rfl) ?_
  refine lv_iand hx hy dL_up_3 ?_
  obtain ⟨mm, hmm, emm⟩ := and_max x
  refine tI emm ?_
  refine lv_iload_n hx hy dL_up_4 rfl (lv_at hl 1 rfl) ?_
  refine lv_irem hx hy dL_up_5 (nI_nz h1 hn) ?_
  refine tI (pk_rem (a := mm) (d := n) (by omega) (by omega) (by omega)) ?_
  exact rI hQ F (v := ()) hI dL_up_6 ⟨mm % n, Nat.mod_lt _ h1, rfl⟩
set_option maxHeartbeats 400000 in
set_option maxRecDepth 100000 in
/-- the script's number, or one made of the place: any; nothing is changed -/
theorem kL_cell (l : Launch) {b L : Nat} (xs : Nat → Int32) (x : Nat) (hx0 : x < 1073741824) (hL : L < 1073741824) : Met l yL_cell (Cond.code yL_cell cL_cell 2 (some .int) :: gW) (Rm 0 0) (va_Pc [.ref b, .int (nI x)] (fun U => va_X b L xs U U.heap ∧ b < U.heap.size)) (va_Qi (fun _ (_ : Unit) => True) (fun _ _ => True) (fun _ => False)) 0 0 (fun _ => False) := by
  refine Met.ofW (cc := cL_cell) (maxL := 2) (ret := some .int) (by decide +kernel) rfl ?_
  intro p e s m args below meth c s₁ B hml hv
  obtain ⟨rfl, hX, hbl⟩ := hv
  have hts := atoms_spec (ws := Cond.code yL_cell cL_cell 2 (some .int) :: gW) B.pre
  have hts : ∀ w ∈ gW, w.before #[Value.ref b, .int (nI x)] s = true := fun w hw => hts w (List.mem_cons_of_mem _ hw)
  have hown : s.vm.findClass RL = some m.cls := findClass_of_methodNamed B.named
  have hx := B.exec
  have hy := B.bytes
  have hret := B.returns
  have hlocks := B.notSynchronized
  rw [lg_entry_eq]
  have hl := lv_entry ([.ref b, .int (nI x)]) (n := 2) (Nat.le_of_ble_eq_true rfl)
  have hS : va_S (fun _ => False) s.heap s.heap [] := va_S.rf
  have hbA : ¬ (fun _ : Nat => False) b := fun h => h
  generalize (lg_sl ([.ref b, .int (nI x)]) ++ List.replicate (2 - (lg_sl ([.ref b, .int (nI x)])).length) Slot.unset).toArray = ls at hl ⊢
  have hl : lv_has ls 2 [(0, .ref b), (1, .int (nI x))] := hl
  refine lv_iload_n hx hy dL_cell_0 rfl (lv_at hl 1 rfl) ?_
  refine lv_aload_n hx hy dL_cell_1 rfl (lv_at hl 0 rfl) ?_
  refine va_slen hx hy hX hbl hbA hS dL_cell_2 ?_
  refine lv_icmp_ge (tgt := 12) hx hy dL_cell_3 (by decide) (fun h => ?_) (fun h => ?_)
  · refine lv_ldc hx hy hown (hts _ K_L_7) dL_cell_12 ?_
    refine lv_iload_n hx hy dL_cell_14 rfl (lv_at hl 1 rfl) ?_
    refine lv_sipush (v := nI 1069) hx hy dL_cell_15 (by decide) ?_
    refine lv_iadd hx hy dL_cell_18 ?_
    refine lv_imul hx hy dL_cell_19 ?_
    exact W.iret hx hy hret (fun t ht _ => ⟨⟨_, (), rfl, trivial, trivial⟩, hS.F ht⟩) hS.2.2 dL_cell_20 hlocks
  · have h9 : x < L := Nat.lt_of_not_le (fun q => h ((nI_leI (a := L) (b := x) (by omega) (by omega)).mpr q))
    refine lv_aload_n hx hy dL_cell_6 rfl (lv_at hl 0 rfl) ?_
    refine lv_iload_n hx hy dL_cell_7 rfl (lv_at hl 1 rfl) ?_
    refine va_sld hx hy hX hbl hbA hS (nI_arr h9 (by omega)).1 dL_cell_8 ?_
    refine lv_goto (tgt := 20) hx hy dL_cell_9 (by decide) ?_
    exact W.iret hx hy hret (fun t ht _ => ⟨⟨_, (), rfl, trivial, trivial⟩, hS.F ht⟩) hS.2.2 dL_cell_20 hlocks
