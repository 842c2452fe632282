/-- the script and where it lies -/
def Scp (E : EV) (s : State) (b L : Nat) (xs : Nat → Int32) : Prop := va_X b L xs s s.heap ∧ b < s.heap.size ∧ ¬ eR E b ∧ L ≤ 260
theorem Sw.all {E : EV} {u : SS} {H H1 : Heap} (h : Sw E u H) (hk : ∀ q : Nat, q < H.size → H1[q]? = H[q]?) : Sw E u H1 := ⟨fun k q hq => (h.1 k q hq).kept (hk q.1 (h.1 k q hq).lt), h.2⟩
section XC
variable {p : Program} {l : Launch} {e : Env} {R : Room} {s : State} {m : MethodId} {args : Array Value} {below : List Frame} {meth : Method} {co : Code} {H : Heap} {locs : List Loc} {cells slots : Nat} {Q : State → Prop} {cc : ByteArray} {pc : Nat} {ls : Array Slot} {rest st : List Value} {E0 E1 E2 : EV} {u w : SS} {nL : Nat} {own : String} {ret : Option FieldType} {b L : Nat} {xs : Nat → Int32}
/-- a call of cell: any number -/
theorem xCell {idx k : Nat} {lv : List (Nat × Value)} (F : Fx E0 p s m args meth co cc nL own ret) (hI : Iv2 E0 E1 E2 s H locs u w) (hB : Scp E0 s b L xs) (hl : lv_has ls nL lv) (hk0 : k < 1073741824) (hL : LkS own idx yL_cell cL_cell 2 (some .int) 2) (hR : 0 + 1 ≤ R.frames ∧ 8 + (2 + 11) + 0 ≤ R.locals) (hf : cells ≤ R.cells ∧ slots ≤ R.slots) (hst : st = [Value.ref b, .int (nI k)].reverse ++ rest) (hW : (rest.map fun v => v.category).sum ≤ 8) (hdg : decode cc pc = .ok (.invokestatic idx, 3)) (kk : ∀ (r : Int32) (H1 : Heap) (locs1 : List Loc), Iv2 E0 E1 E2 s H1 locs1 u w → W p l e R s m args below meth co H1 locs1 cells slots Q (F0 m (pc + 3) ls (.int r :: rest))) : W p l e R s m args below meth co H locs cells slots Q (F0 m pc ls st) := by
  obtain ⟨⟨hl1, h2, h3, h4, h5, h6⟩, h7⟩ := hL
  have ht := F.2.2.2.2.1
  have h9 := hB.2.2.2
  have hM := kL_cell l (b := b) (L := L) xs k hk0 (by omega)
  have hp : PreS s H (va_Pc [.ref b, .int (nI k)] (fun U => va_X b L xs U U.heap ∧ b < U.heap.size)) [.ref b, .int (nI k)] := ⟨fun a U g mk q => ⟨q.1, va_X.moved (u := U) (U := U.calling g mk a) (Vm.Alike.refl U.vm) q.2.1, q.2.2⟩, fun U hU hWm => ⟨rfl, by rw [hU]; exact va_X.moved hWm.alike (hB.1.kept (hI.2.2.1 b hB.2.1 hB.2.2.1)), by rw [hU]; exact Nat.lt_of_lt_of_le hB.2.1 hI.2.1⟩⟩
  have hr : va_Run p l e R s m args below meth co H locs cells slots 0 0 (F0 m pc ls st) rest (va_Qi (fun _ (_ : Unit) => True) (fun _ _ => True) (fun _ => False) [Value.ref b, .int (nI k)].toArray) (fun _ => False) := by
    rcases hl1 with h1 | ⟨host, h1⟩
    · exact va_runS ⟨F.1, F.2.1, F.2.2.1, F.2.2.2.1, ht⟩ hM ⟨callB_of 2 ht (gW_in h3) rfl rfl rfl (ht _ h2) (ht _ h1) ⟨h4, h5, h6⟩ hR, ht _ h7⟩ hp rfl rfl hl.1 hst (lv_room hW) hdg hf
    · exact va_runSN ⟨F.1, F.2.1, F.2.2.1, F.2.2.2.1, ht⟩ hM ⟨va_cnB 2 ht (gW_in h3) rfl rfl rfl (F.2.2.2.2.2.1.2.1 _ h1) (ht _ h2) ⟨h4, h5, h6⟩ hR, ht _ h7, trivial⟩ hp rfl rfl hl.1 hst (lv_room hW) hdg hf
  exact va_calli hr hI.2 (fun _ _ h => h.elim) (fun _ h => h.elim) (fun r v t H1 locs1 _ _ _ _ _ hk hS => kk r H1 locs1 ⟨⟨hI.1.1.all (fun q hq => hk q hq (fun h => h)), hI.1.2.all (fun q hq => hk q hq (fun h => h))⟩, hS⟩)
end XC
set_option maxHeartbeats 400000 in
set_option maxRecDepth 100000 in
theorem law_loop {p : Program} {l : Launch} {e : Env} {s : State} {m : MethodId} {args : Array Value} {below : List Frame} {meth : Method} {co : Code} {Q : State → Prop} {E0 E1 E2 : EV} {b L cl sl : Nat} {xs : Nat → Int32} (F : Fx E0 p s m args meth co cL_law 5 RL (some .boolean)) (hT : Two E0 E1 E2) (hB : Scp E0 s b L xs) (hcl : cl ≤ 600000) (hsl : sl ≤ 7302250) (hret : ∀ (H : Heap) (locs : List Loc) (ls : Array Slot) (pc : Nat), va_S (eR E0) s.heap H locs → decode cL_law pc = .ok (.ireturn, 1) → W p l e room_1 s m args below meth co H locs cl sl Q (F0 m pc ls [.int (nI 1)])) {u w : SS} {X Y : XS} (hCa : RepC u.1 X) (hCb : RepC w.1 Y) (hR : Rl X Y) {H : Heap} {locs : List Loc} {ls : Array Slot} (hI : Iv2 E0 E1 E2 s H locs u w) (hl : lv_has ls 5 [(0, .ref (b)), (1, .ref (eA E1 0)), (2, .ref (eA E2 0))]) : W p l e room_1 s m args below meth co H locs cl sl Q (F0 m 16 ls []) := by
  have hx := F.1
  have hy := F.2.1
  refine lv_iconst (v := nI 1) hx hy dL_law_16 (by decide) ?_
  refine lv_istore_n (lv' := [(3, .int (nI 1)), (0, .ref (b)), (1, .ref (eA E1 0)), (2, .ref (eA E2 0))]) hx hy dL_law_17 rfl hl (by decide) rfl (fun ls hl => ?_)
  refine lv_iconst (v := nI 0) hx hy dL_law_18 (by decide) ?_
  refine lv_istore (lv' := [(4, .int (nI 0)), (3, .int (nI 1)), (0, .ref (b)), (1, .ref (eA E1 0)), (2, .ref (eA E2 0))]) hx hy dL_law_19 hl (by decide) rfl (fun ls hl => ?_)
  have lp1 : ∀ (fu : Nat) (kk : Nat) (va vb : SS) (Xv Yv : XS), (kk ≤ 40) → (40 - kk < fu) → (RepC va.1 Xv) → (RepC vb.1 Yv) → (Rl Xv Yv) →  ∀ (H : Heap) (locs : List Loc) (ls : Array Slot), Iv2 E0 E1 E2 s H locs va vb → lv_has ls 5 [(4, .int (nI kk)), (3, .int (nI 1)), (0, .ref (b)), (1, .ref (eA E1 0)), (2, .ref (eA E2 0))] → W p l e room_1 s m args below meth co H locs cl sl Q (F0 m 21 ls []) := by
    intro fu
    induction fu with
    | zero => intro kk va vb Xv Yv hkk hf hca9 hcb9 hRv; exact absurd hf (Nat.not_lt_zero _)
    | succ fu ih =>
      intro kk va vb Xv Yv hkk hf hca9 hcb9 hRv H locs ls hI hl
      have ih_21 := ih
      refine lv_iload hx hy dL_law_21 (lv_at hl 0 rfl) ?_
      refine lv_bipush (v := nI 40) hx hy dL_law_23 (by decide) ?_
      refine lv_icmp_ge (tgt := 83) hx hy dL_law_25 (by decide) (fun h2 => ?_) (fun h2 => ?_)
      · have h2 : 40 ≤ kk := (nI_leI (a := 40) (b := kk) (by omega) (by omega)).mp h2
        refine lv_iload_n hx hy dL_law_83 rfl (lv_at hl 1 rfl) ?_
        refine lv_if_eq (tgt := 113) hx hy dL_law_84 (by decide) (fun q => absurd q (by decide)) (fun _ => ?_)
        refine lv_aload_n hx hy dL_law_87 rfl (lv_at hl 3 rfl) ?_
        refine za hT hI (xSa F hT hI hl (kL_isWell l E1 va (X := Xv) hca9 hRv.1 ) M_L_88 rfl ⟨Nat.le_of_ble_eq_true rfl, Nat.le_of_ble_eq_true rfl⟩ ⟨hcl, hsl⟩ rfl (Nat.le_of_ble_eq_true rfl) dL_law_88) (fun r4 v5 H locs hI hp3 => ?_)
        obtain ⟨hq6, hC7⟩ := hp3
        refine tI (show _ = nI 1 from hq6) ?_
        refine lv_if_eq (tgt := 113) hx hy dL_law_91 (by decide) (fun q => absurd q (by decide)) (fun _ => ?_)
        refine lv_aload_n hx hy dL_law_94 rfl (lv_at hl 4 rfl) ?_
        refine lv_iconst (v := nI 0) hx hy dL_law_95 (by decide) ?_
        refine zb hT hI (xVb F hT hI hl (kX5_count l E2 vb (X := Yv) hcb9 hRv.2.1 (nI 0)) M_L_9 (rX5b F hT hI) rfl ⟨Nat.le_of_ble_eq_true rfl, Nat.le_of_ble_eq_true rfl⟩ ⟨hcl, hsl⟩ rfl (Nat.le_of_ble_eq_true rfl) dL_law_96) (fun r9 v10 H locs hI hp8 => ?_)
        obtain ⟨hq11, hC12⟩ := q_count hp8 (by decide)
        refine tI (show _ = nI (Yv.1.1) from hq11) ?_
        refine lv_iconst (v := nI 2) hx hy dL_law_99 (by decide) ?_
        refine lv_aload_n hx hy dL_law_100 rfl (lv_at hl 3 rfl) ?_
        refine lv_iconst (v := nI 0) hx hy dL_law_101 (by decide) ?_
        refine za hT hI (xVa F hT hI hl (kX5_count l E1 v5 (X := Xv) hC7 hRv.1 (nI 0)) M_L_9 (rX5a F hT hI) rfl ⟨Nat.le_of_ble_eq_true rfl, Nat.le_of_ble_eq_true rfl⟩ ⟨hcl, hsl⟩ rfl (Nat.le_of_ble_eq_true rfl) dL_law_102) (fun r14 v15 H locs hI hp13 => ?_)
        obtain ⟨hq16, hC17⟩ := q_count hp13 (by decide)
        refine tI (show _ = nI (Xv.1.1) from hq16) ?_
        refine lv_imul hx hy dL_law_105 ?_
        refine tI (pk_mul (2) (Xv.1.1)) ?_
        refine lv_icmp_ne (tgt := 113) hx hy dL_law_106 (by decide) (fun q => absurd (congrArg nI hRv.2.2.2.1) q) (fun h18 => ?_)
        refine lv_iconst (v := nI 1) hx hy dL_law_109 (by decide) ?_
        refine lv_goto (tgt := 114) hx hy dL_law_110 (by decide) ?_
        refine lv_istore_n (lv' := [(3, .int (nI 1)), (4, .int (nI kk)), (0, .ref (b)), (1, .ref (eA E1 0)), (2, .ref (eA E2 0))]) hx hy dL_law_114 rfl hl (by decide) rfl (fun ls hl => ?_)
        refine lv_iconst (v := nI 0) hx hy dL_law_115 (by decide) ?_
        refine lv_istore (lv' := [(4, .int (nI 0)), (3, .int (nI 1)), (0, .ref (b)), (1, .ref (eA E1 0)), (2, .ref (eA E2 0))]) hx hy dL_law_116 hl (by decide) rfl (fun ls hl => ?_)
        have lp19 : ∀ (fu : Nat) (tt : Nat) (wa wb : SS), (tt ≤ Xv.1.1) → (Xv.1.1 - tt < fu) → (RepC wa.1 Xv) → (RepC wb.1 Yv) →  ∀ (H : Heap) (locs : List Loc) (ls : Array Slot), Iv2 E0 E1 E2 s H locs wa wb → lv_has ls 5 [(4, .int (nI tt)), (3, .int (nI 1)), (0, .ref (b)), (1, .ref (eA E1 0)), (2, .ref (eA E2 0))] → W p l e room_1 s m args below meth co H locs cl sl Q (F0 m 118 ls []) := by
          intro fu
          induction fu with
          | zero => intro tt wa wb htt hf2 hda9 hdb9; exact absurd hf2 (Nat.not_lt_zero _)
          | succ fu ih =>
            intro tt wa wb htt hf2 hda9 hdb9 H locs ls hI hl
            have ih_118 := ih
            refine lv_iload hx hy dL_law_118 (lv_at hl 0 rfl) ?_
            refine lv_aload_n hx hy dL_law_120 rfl (lv_at hl 3 rfl) ?_
            refine lv_iconst (v := nI 0) hx hy dL_law_121 (by decide) ?_
            refine za hT hI (xVa F hT hI hl (kX5_count l E1 wa (X := Xv) hda9 hRv.1 (nI 0)) M_L_9 (rX5a F hT hI) rfl ⟨Nat.le_of_ble_eq_true rfl, Nat.le_of_ble_eq_true rfl⟩ ⟨hcl, hsl⟩ rfl (Nat.le_of_ble_eq_true rfl) dL_law_122) (fun r21 v22 H locs hI hp20 => ?_)
            obtain ⟨hq23, hC24⟩ := q_count hp20 (by decide)
            refine tI (show _ = nI (Xv.1.1) from hq23) ?_
            refine lv_icmp_ge (tgt := 146) hx hy dL_law_125 (by decide) (fun h25 => ?_) (fun h25 => ?_)
            · have h25 : Xv.1.1 ≤ tt := (nI_leI (a := Xv.1.1) (b := tt) (by have := hRv.2.2.1; omega) (by have := hRv.2.2.1; omega)).mp h25
              refine lv_iload_n hx hy dL_law_146 rfl (lv_at hl 1 rfl) ?_
              exact hret H locs ls _ hI.2 dL_law_147
            · have h25 : tt < Xv.1.1 := Nat.lt_of_not_le (fun q9 => h25 ((nI_leI (a := Xv.1.1) (b := tt) (by have := hRv.2.2.1; omega) (by have := hRv.2.2.1; omega)).mpr q9))
              refine lv_iload_n hx hy dL_law_128 rfl (lv_at hl 1 rfl) ?_
              refine lv_if_eq (tgt := 146) hx hy dL_law_129 (by decide) (fun q => absurd q (by decide)) (fun _ => ?_)
              refine lv_aload_n hx hy dL_law_132 rfl (lv_at hl 3 rfl) ?_
              refine lv_aload_n hx hy dL_law_133 rfl (lv_at hl 4 rfl) ?_
              refine lv_iload hx hy dL_law_134 (lv_at hl 0 rfl) ?_
              refine z2 hI (xS2 F hI hl (kL_isTurned l hT v22 wb (X := Xv) (Y := Yv) hC24 hdb9 hRv tt (by omega)) M_L_59 rfl ⟨Nat.le_of_ble_eq_true rfl, Nat.le_of_ble_eq_true rfl⟩ ⟨hcl, hsl⟩ rfl (Nat.le_of_ble_eq_true rfl) dL_law_136) (fun r27 ua29 ub30 H locs hI hp26 => ?_)
              obtain ⟨hq31, hC32, hC33⟩ := hp26
              refine tI (show _ = nI 1 from hq31) ?_
              refine lv_istore_n (lv' := [(3, .int (nI 1)), (4, .int (nI tt)), (0, .ref (b)), (1, .ref (eA E1 0)), (2, .ref (eA E2 0))]) hx hy dL_law_139 rfl hl (by decide) rfl (fun ls hl => ?_)
              refine lv_iinc (v := nI (tt + 1)) (lv' := [(4, .int (nI (tt + 1))), (3, .int (nI 1)), (0, .ref (b)), (1, .ref (eA E1 0)), (2, .ref (eA E2 0))]) hx hy dL_law_140 hl (k := 1) rfl (nI_add (tt) 1) (by decide) rfl (fun ls hl => ?_)
              refine lv_goto (tgt := 118) hx hy dL_law_143 (by decide) ?_
              exact ih_118 (tt + 1) ua29 ub30 (by omega) (by omega) hC32 hC33 _ _ _ hI (lv_sub hl [0, 1, 2, 3, 4] rfl)
        exact lp19 (Xv.1.1 + 1) 0 v15 v10 (by omega) (by omega) hC17 hC12 _ _ _ hI (lv_sub hl [0, 1, 2, 3, 4] rfl)
      · have h2 : kk < 40 := Nat.lt_of_not_le (fun q9 => h2 ((nI_leI (a := 40) (b := kk) (by omega) (by omega)).mpr q9))
        refine lv_iload_n hx hy dL_law_28 rfl (lv_at hl 1 rfl) ?_
        refine lv_if_eq (tgt := 83) hx hy dL_law_29 (by decide) (fun q => absurd q (by decide)) (fun _ => ?_)
        refine lv_aload_n hx hy dL_law_32 rfl (lv_at hl 3 rfl) ?_
        refine lv_aload_n hx hy dL_law_33 rfl (lv_at hl 4 rfl) ?_
        refine lv_aload_n hx hy dL_law_34 rfl (lv_at hl 2 rfl) ?_
        refine lv_iload hx hy dL_law_35 (lv_at hl 0 rfl) ?_
        refine xCell F hI hB hl (k := kk) (by omega) M_L_80 ⟨Nat.le_of_ble_eq_true rfl, Nat.le_of_ble_eq_true rfl⟩ ⟨hcl, hsl⟩ rfl (Nat.le_of_ble_eq_true rfl) dL_law_37 (fun r34 H locs hI => ?_)
        refine lv_aload_n hx hy dL_law_40 rfl (lv_at hl 2 rfl) ?_
        refine lv_iload hx hy dL_law_41 (lv_at hl 0 rfl) ?_
        refine lv_iconst (v := nI 1) hx hy dL_law_43 (by decide) ?_
        refine lv_iadd hx hy dL_law_44 ?_
        refine tI (nI_add (kk) (1)) ?_
        refine xCell F hI hB hl (k := kk + 1) (by omega) M_L_80 ⟨Nat.le_of_ble_eq_true rfl, Nat.le_of_ble_eq_true rfl⟩ ⟨hcl, hsl⟩ rfl (Nat.le_of_ble_eq_true rfl) dL_law_45 (fun r35 H locs hI => ?_)
        refine lv_iconst (v := nI 2) hx hy dL_law_48 (by decide) ?_
        refine lv_ishr hx hy dL_law_49 ?_
        refine z2 hI (xS2 F hI hl (kL_isStep l hT va vb (X := Xv) (Y := Yv) hca9 hcb9 hRv r34 (r35 >>> ((nI 2) &&& 31))) M_L_84 rfl ⟨Nat.le_of_ble_eq_true rfl, Nat.le_of_ble_eq_true rfl⟩ ⟨hcl, hsl⟩ rfl (Nat.le_of_ble_eq_true rfl) dL_law_50) (fun r37 ua38 ub39 H locs hI hp36 => ?_)
        obtain ⟨hq40, X41, Y42, hR43, hC44, hC45⟩ := hp36
        refine tI (show _ = nI 1 from hq40) ?_
        refine lv_if_eq (tgt := 75) hx hy dL_law_53 (by decide) (fun q => absurd q (by decide)) (fun _ => ?_)
        refine lv_iload hx hy dL_law_56 (lv_at hl 0 rfl) ?_
        refine lv_bipush (v := nI 8) hx hy dL_law_58 (by decide) ?_
        refine lv_irem hx hy dL_law_60 (fun q => absurd ((nI_eq (by omega) (by omega)).mp (show nI (8) = nI 0 from q)) (by omega)) ?_
        refine tI (pk_rem (a := kk) (d := 8) (by omega) (by omega) (by omega)) ?_
        refine lv_if_gt (tgt := 71) hx hy dL_law_61 (by decide) (fun h46 => ?_) (fun h46 => ?_)
        · have h46 : 0 < kk % 8 := (nI_ltI (a := 0) (b := kk % 8) (by omega) (by omega)).mp h46
          refine lv_iconst (v := nI 1) hx hy dL_law_71 (by decide) ?_
          refine lv_goto (tgt := 76) hx hy dL_law_72 (by decide) ?_
          refine lv_istore_n (lv' := [(3, .int (nI 1)), (4, .int (nI kk)), (0, .ref (b)), (1, .ref (eA E1 0)), (2, .ref (eA E2 0))]) hx hy dL_law_76 rfl hl (by decide) rfl (fun ls hl => ?_)
          refine lv_iinc (v := nI (kk + 1)) (lv' := [(4, .int (nI (kk + 1))), (3, .int (nI 1)), (0, .ref (b)), (1, .ref (eA E1 0)), (2, .ref (eA E2 0))]) hx hy dL_law_77 hl (k := 1) rfl (nI_add (kk) 1) (by decide) rfl (fun ls hl => ?_)
          refine lv_goto (tgt := 21) hx hy dL_law_80 (by decide) ?_
          exact ih_21 (kk + 1) ua38 ub39 X41 Y42 (by omega) (by omega) hC44 hC45 hR43 _ _ _ hI (lv_sub hl [0, 1, 2, 3, 4] rfl)
        · have h46 : kk % 8 ≤ 0 := Nat.le_of_not_lt (fun q9 => h46 ((nI_ltI (a := 0) (b := kk % 8) (by omega) (by omega)).mpr q9))
          refine lv_aload_n hx hy dL_law_64 rfl (lv_at hl 3 rfl) ?_
          refine za hT hI (xSa F hT hI hl (kL_isWell l E1 ua38 (X := X41) hC44 hR43.1 ) M_L_88 rfl ⟨Nat.le_of_ble_eq_true rfl, Nat.le_of_ble_eq_true rfl⟩ ⟨hcl, hsl⟩ rfl (Nat.le_of_ble_eq_true rfl) dL_law_65) (fun r48 v49 H locs hI hp47 => ?_)
          obtain ⟨hq50, hC51⟩ := hp47
          refine tI (show _ = nI 1 from hq50) ?_
          refine lv_if_eq (tgt := 75) hx hy dL_law_68 (by decide) (fun q => absurd q (by decide)) (fun _ => ?_)
          refine lv_iconst (v := nI 1) hx hy dL_law_71 (by decide) ?_
          refine lv_goto (tgt := 76) hx hy dL_law_72 (by decide) ?_
          refine lv_istore_n (lv' := [(3, .int (nI 1)), (4, .int (nI kk)), (0, .ref (b)), (1, .ref (eA E1 0)), (2, .ref (eA E2 0))]) hx hy dL_law_76 rfl hl (by decide) rfl (fun ls hl => ?_)
          refine lv_iinc (v := nI (kk + 1)) (lv' := [(4, .int (nI (kk + 1))), (3, .int (nI 1)), (0, .ref (b)), (1, .ref (eA E1 0)), (2, .ref (eA E2 0))]) hx hy dL_law_77 hl (k := 1) rfl (nI_add (kk) 1) (by decide) rfl (fun ls hl => ?_)
          refine lv_goto (tgt := 21) hx hy dL_law_80 (by decide) ?_
          exact ih_21 (kk + 1) v49 ub39 X41 Y42 (by omega) (by omega) hC51 hC45 hR43 _ _ _ hI (lv_sub hl [0, 1, 2, 3, 4] rfl)
  exact lp1 41 0 u w X Y (by omega) (by omega) hCa hCb hR _ _ _ hI (lv_sub hl [0, 1, 2, 3, 4] rfl)
