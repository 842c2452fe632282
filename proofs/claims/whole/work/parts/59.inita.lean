set_option maxHeartbeats 1000000 in
set_option maxRecDepth 100000 in
theorem iX0 (l : Launch) (D : va_G) (base : Nat) (ws0 : va_W) (h0 : Nat) : CI l yX0_init cX0_init 1 1 20 2 64 D base ws0 h0 (.inr (0, [.int (nI 0), .int (nI 0), .null, .null])) (S := Nat × ClassId × Nat × ClassId) (fun v => [(h0, .inr (0, [.int (nI 256), .int (nI 0), .ref (v.1), .ref (v.2.2.1)])), ((v.1), .inl ((v.2.1), 16, .inl (fun _ => 0))), ((v.2.2.1), .inl ((v.2.2.2), 48, .inl (fun _ => 0)))]) (fun v => [((v.2.1), .int), ((v.2.2.2), .int)]) := by
  refine istart RX0 (by decide +kernel) rfl rfl (Nat.le_of_ble_eq_true rfl) ?_
  intro p e s m args below meth co ls Q hQ F hI hK hl
  have hl : lv_has ls 1 [(0, .ref h0)] := hl
  have hI : Iw D base ws0 s [(h0, .inr (0, [.int (nI 0), .int (nI 0), .null, .null]))] s.heap [] := hI
  refine lv_aload_n F.1 F.2.1 dX0_init_0 rfl (lv_at hl 0 rfl) ?_
  refine W.objInit F.1 F.2.1 F.2.2.2.1 (F.2.2.2.2.1 _ (gW_t (List.mem_of_getElem? (i := 28) (by decide +kernel)) (by decide +kernel))) (F.2.2.2.2.1 _ (gW_t (List.mem_of_getElem? (i := 21) (by decide +kernel)) (by decide +kernel))) (F.2.2.2.2.1 _ (gW_t (List.mem_of_getElem? (i := 22) (by decide +kernel)) (by decide +kernel))) rfl (by rw [F.2.2.1]; exact hl.1) rfl dX0_init_1 (Nat.le_of_ble_eq_true rfl) (Nat.le_of_ble_eq_true rfl) ?_
  refine W.eq (g2 := F0 m 4 ls []) rfl ?_
  refine lv_aload_n F.1 F.2.1 dX0_init_4 rfl (lv_at hl 0 rfl) ?_
  refine lv_sipush (v := nI 256) F.1 F.2.1 dX0_init_5 (by decide) ?_
  refine i_put F hI hK 0 rfl rfl inlX0 tyX0 tyX0_ok nmX0 0 (by decide) (gW_t (List.mem_of_getElem? (i := 29) (by decide +kernel)) (by decide +kernel)) rfl rfl rfl rfl rfl (Nat.le_of_ble_eq_true rfl) dX0_init_8 (fun H locs hI => ?_)
  have hI : Iw D base ws0 s [(h0, .inr (0, [.int (nI 256), .int (nI 0), .null, .null]))] H locs := hI
  have hK : va_K D vwCl [] s := hK
  refine lv_aload_n F.1 F.2.1 dX0_init_11 rfl (lv_at hl 0 rfl) ?_
  refine lv_iconst (v := nI 0) F.1 F.2.1 dX0_init_12 (by decide) ?_
  refine i_put F hI hK 0 rfl rfl inlX0 tyX0 tyX0_ok nmX0 1 (by decide) (gW_t (List.mem_of_getElem? (i := 31) (by decide +kernel)) (by decide +kernel)) rfl rfl rfl rfl rfl (Nat.le_of_ble_eq_true rfl) dX0_init_13 (fun H locs hI => ?_)
  have hI : Iw D base ws0 s [(h0, .inr (0, [.int (nI 256), .int (nI 0), .null, .null]))] H locs := hI
  have hK : va_K D vwCl [] s := hK
  refine lv_aload_n F.1 F.2.1 dX0_init_16 rfl (lv_at hl 0 rfl) ?_
  refine lv_bipush (v := nI 16) F.1 F.2.1 dX0_init_17 (by decide) ?_
  refine i_newa F hI hK (atype := .int) (gW_t (List.mem_of_getElem? (i := 46) (by decide +kernel)) (by decide +kernel)) (ty := .int) rfl (n := 16) (N' := 16) (a0 := (16, .inl (fun _ => 0))) (fun _ => rfl) (by decide) (by decide) (by decide) (Nat.le_of_ble_eq_true rfl) (Nat.le_of_ble_eq_true rfl) dX0_init_19 (fun q1 cA2 H hI hK => ?_)
  have hI : Iw D base ws0 s [(h0, .inr (0, [.int (nI 256), .int (nI 0), .null, .null])), (q1, .inl (cA2, 16, .inl (fun _ => 0)))] H locs := hI
  have hK : va_K D vwCl [(cA2, .int)] s := hK
  refine i_putF F hI hK 0 rfl rfl inlX0 tyX0 tyX0_ok nmX0 2 (by decide) (gW_t (List.mem_of_getElem? (i := 35) (by decide +kernel)) (by decide +kernel)) rfl rfl rfl rfl rfl rfl (Nat.le_of_ble_eq_true rfl) dX0_init_21 (fun H locs hI => ?_)
  have hI : Iw D base ws0 s [(h0, .inr (0, [.int (nI 256), .int (nI 0), .ref q1, .null])), (q1, .inl (cA2, 16, .inl (fun _ => 0)))] H locs := hI
  have hK : va_K D vwCl [(cA2, .int)] s := hK
  refine lv_aload_n F.1 F.2.1 dX0_init_24 rfl (lv_at hl 0 rfl) ?_
  refine lv_bipush (v := nI 48) F.1 F.2.1 dX0_init_25 (by decide) ?_
  refine i_newa F hI hK (atype := .int) (gW_t (List.mem_of_getElem? (i := 46) (by decide +kernel)) (by decide +kernel)) (ty := .int) rfl (n := 48) (N' := 48) (a0 := (48, .inl (fun _ => 0))) (fun _ => rfl) (by decide) (by decide) (by decide) (Nat.le_of_ble_eq_true rfl) (Nat.le_of_ble_eq_true rfl) dX0_init_27 (fun q3 cA4 H hI hK => ?_)
  have hI : Iw D base ws0 s [(h0, .inr (0, [.int (nI 256), .int (nI 0), .ref q1, .null])), (q1, .inl (cA2, 16, .inl (fun _ => 0))), (q3, .inl (cA4, 48, .inl (fun _ => 0)))] H locs := hI
  have hK : va_K D vwCl [(cA2, .int), (cA4, .int)] s := hK
  refine i_putF F hI hK 0 rfl rfl inlX0 tyX0 tyX0_ok nmX0 3 (by decide) (gW_t (List.mem_of_getElem? (i := 36) (by decide +kernel)) (by decide +kernel)) rfl rfl rfl rfl rfl rfl (Nat.le_of_ble_eq_true rfl) dX0_init_29 (fun H locs hI => ?_)
  have hI : Iw D base ws0 s [(h0, .inr (0, [.int (nI 256), .int (nI 0), .ref q1, .ref q3])), (q1, .inl (cA2, 16, .inl (fun _ => 0))), (q3, .inl (cA4, 48, .inl (fun _ => 0)))] H locs := hI
  have hK : va_K D vwCl [(cA2, .int), (cA4, .int)] s := hK
  exact i_ret hQ F (q1, cA2, q3, cA4) hI hK dX0_init_32
set_option maxHeartbeats 1000000 in
set_option maxRecDepth 100000 in
theorem iX1 (l : Launch) (D : va_G) (base : Nat) (ws0 : va_W) (h0 : Nat) : CI l yX1_init cX1_init 1 1 20 1 80 D base ws0 h0 (.inr (1, [.null, .int (nI 0), .int (nI 0)])) (S := Nat × ClassId) (fun v => [(h0, .inr (1, [.ref (v.1), .int (nI 0), .int (nI 0)])), ((v.1), .inl ((v.2), 80, .inl (fun _ => 0)))]) (fun v => [((v.2), .char)]) := by
  refine istart RX1 (by decide +kernel) rfl rfl (Nat.le_of_ble_eq_true rfl) ?_
  intro p e s m args below meth co ls Q hQ F hI hK hl
  have hl : lv_has ls 1 [(0, .ref h0)] := hl
  have hI : Iw D base ws0 s [(h0, .inr (1, [.null, .int (nI 0), .int (nI 0)]))] s.heap [] := hI
  refine lv_aload_n F.1 F.2.1 dX1_init_0 rfl (lv_at hl 0 rfl) ?_
  refine W.objInit F.1 F.2.1 F.2.2.2.1 (F.2.2.2.2.1 _ (gW_t (List.mem_of_getElem? (i := 72) (by decide +kernel)) (by decide +kernel))) (F.2.2.2.2.1 _ (gW_t (List.mem_of_getElem? (i := 21) (by decide +kernel)) (by decide +kernel))) (F.2.2.2.2.1 _ (gW_t (List.mem_of_getElem? (i := 22) (by decide +kernel)) (by decide +kernel))) rfl (by rw [F.2.2.1]; exact hl.1) rfl dX1_init_1 (Nat.le_of_ble_eq_true rfl) (Nat.le_of_ble_eq_true rfl) ?_
  refine W.eq (g2 := F0 m 4 ls []) rfl ?_
  refine lv_aload_n F.1 F.2.1 dX1_init_4 rfl (lv_at hl 0 rfl) ?_
  refine lv_bipush (v := nI 80) F.1 F.2.1 dX1_init_5 (by decide) ?_
  refine i_newa F hI hK (atype := .char) (gW_t (List.mem_of_getElem? (i := 84) (by decide +kernel)) (by decide +kernel)) (ty := .char) rfl (n := 80) (N' := 80) (a0 := (80, .inl (fun _ => 0))) (fun _ => rfl) (by decide) (by decide) (by decide) (Nat.le_of_ble_eq_true rfl) (Nat.le_of_ble_eq_true rfl) dX1_init_7 (fun q1 cA2 H hI hK => ?_)
  have hI : Iw D base ws0 s [(h0, .inr (1, [.null, .int (nI 0), .int (nI 0)])), (q1, .inl (cA2, 80, .inl (fun _ => 0)))] H [] := hI
  have hK : va_K D vwCl [(cA2, .char)] s := hK
  refine i_putF F hI hK 0 rfl rfl inlX1 tyX1 tyX1_ok nmX1 0 (by decide) (gW_t (List.mem_of_getElem? (i := 73) (by decide +kernel)) (by decide +kernel)) rfl rfl rfl rfl rfl rfl (Nat.le_of_ble_eq_true rfl) dX1_init_9 (fun H locs hI => ?_)
  have hI : Iw D base ws0 s [(h0, .inr (1, [.ref q1, .int (nI 0), .int (nI 0)])), (q1, .inl (cA2, 80, .inl (fun _ => 0)))] H locs := hI
  have hK : va_K D vwCl [(cA2, .char)] s := hK
  refine lv_aload_n F.1 F.2.1 dX1_init_12 rfl (lv_at hl 0 rfl) ?_
  refine lv_iconst (v := nI 0) F.1 F.2.1 dX1_init_13 (by decide) ?_
  refine i_put F hI hK 0 rfl rfl inlX1 tyX1 tyX1_ok nmX1 1 (by decide) (gW_t (List.mem_of_getElem? (i := 74) (by decide +kernel)) (by decide +kernel)) rfl rfl rfl rfl rfl (Nat.le_of_ble_eq_true rfl) dX1_init_14 (fun H locs hI => ?_)
  have hI : Iw D base ws0 s [(h0, .inr (1, [.ref q1, .int (nI 0), .int (nI 0)])), (q1, .inl (cA2, 80, .inl (fun _ => 0)))] H locs := hI
  have hK : va_K D vwCl [(cA2, .char)] s := hK
  refine lv_aload_n F.1 F.2.1 dX1_init_17 rfl (lv_at hl 0 rfl) ?_
  refine lv_iconst (v := nI 0) F.1 F.2.1 dX1_init_18 (by decide) ?_
  refine i_put F hI hK 0 rfl rfl inlX1 tyX1 tyX1_ok nmX1 2 (by decide) (gW_t (List.mem_of_getElem? (i := 76) (by decide +kernel)) (by decide +kernel)) rfl rfl rfl rfl rfl (Nat.le_of_ble_eq_true rfl) dX1_init_19 (fun H locs hI => ?_)
  have hI : Iw D base ws0 s [(h0, .inr (1, [.ref q1, .int (nI 0), .int (nI 0)])), (q1, .inl (cA2, 80, .inl (fun _ => 0)))] H locs := hI
  have hK : va_K D vwCl [(cA2, .char)] s := hK
  exact i_ret hQ F (q1, cA2) hI hK dX1_init_22
set_option maxHeartbeats 1000000 in
set_option maxRecDepth 100000 in
theorem iX2 (l : Launch) (D : va_G) (base : Nat) (ws0 : va_W) (h0 : Nat) : CI l yX2_init cX2_init 1 1 20 3 48 D base ws0 h0 (.inr (2, [.null, .null, .null])) (S := Nat × ClassId × Nat × ClassId × Nat × ClassId) (fun v => [(h0, .inr (2, [.ref (v.1), .ref (v.2.2.1), .ref (v.2.2.2.2.1)])), ((v.1), .inl ((v.2.1), 16, .inl (fun _ => 0))), ((v.2.2.1), .inl ((v.2.2.2.1), 16, .inl (fun _ => 0))), ((v.2.2.2.2.1), .inl ((v.2.2.2.2.2), 16, .inl (fun _ => 0)))]) (fun v => [((v.2.1), .int), ((v.2.2.2.1), .int), ((v.2.2.2.2.2), .int)]) := by
  refine istart RX2 (by decide +kernel) rfl rfl (Nat.le_of_ble_eq_true rfl) ?_
  intro p e s m args below meth co ls Q hQ F hI hK hl
  have hl : lv_has ls 1 [(0, .ref h0)] := hl
  have hI : Iw D base ws0 s [(h0, .inr (2, [.null, .null, .null]))] s.heap [] := hI
  refine lv_aload_n F.1 F.2.1 dX2_init_0 rfl (lv_at hl 0 rfl) ?_
  refine W.objInit F.1 F.2.1 F.2.2.2.1 (F.2.2.2.2.1 _ (gW_t (List.mem_of_getElem? (i := 90) (by decide +kernel)) (by decide +kernel))) (F.2.2.2.2.1 _ (gW_t (List.mem_of_getElem? (i := 21) (by decide +kernel)) (by decide +kernel))) (F.2.2.2.2.1 _ (gW_t (List.mem_of_getElem? (i := 22) (by decide +kernel)) (by decide +kernel))) rfl (by rw [F.2.2.1]; exact hl.1) rfl dX2_init_1 (Nat.le_of_ble_eq_true rfl) (Nat.le_of_ble_eq_true rfl) ?_
  refine W.eq (g2 := F0 m 4 ls []) rfl ?_
  refine lv_aload_n F.1 F.2.1 dX2_init_4 rfl (lv_at hl 0 rfl) ?_
  refine lv_bipush (v := nI 16) F.1 F.2.1 dX2_init_5 (by decide) ?_
  refine i_newa F hI hK (atype := .int) (gW_t (List.mem_of_getElem? (i := 46) (by decide +kernel)) (by decide +kernel)) (ty := .int) rfl (n := 16) (N' := 16) (a0 := (16, .inl (fun _ => 0))) (fun _ => rfl) (by decide) (by decide) (by decide) (Nat.le_of_ble_eq_true rfl) (Nat.le_of_ble_eq_true rfl) dX2_init_7 (fun q1 cA2 H hI hK => ?_)
  have hI : Iw D base ws0 s [(h0, .inr (2, [.null, .null, .null])), (q1, .inl (cA2, 16, .inl (fun _ => 0)))] H [] := hI
  have hK : va_K D vwCl [(cA2, .int)] s := hK
  refine i_putF F hI hK 0 rfl rfl inlX2 tyX2 tyX2_ok nmX2 0 (by decide) (gW_t (List.mem_of_getElem? (i := 91) (by decide +kernel)) (by decide +kernel)) rfl rfl rfl rfl rfl rfl (Nat.le_of_ble_eq_true rfl) dX2_init_9 (fun H locs hI => ?_)
  have hI : Iw D base ws0 s [(h0, .inr (2, [.ref q1, .null, .null])), (q1, .inl (cA2, 16, .inl (fun _ => 0)))] H locs := hI
  have hK : va_K D vwCl [(cA2, .int)] s := hK
  refine lv_aload_n F.1 F.2.1 dX2_init_12 rfl (lv_at hl 0 rfl) ?_
  refine lv_bipush (v := nI 16) F.1 F.2.1 dX2_init_13 (by decide) ?_
  refine i_newa F hI hK (atype := .int) (gW_t (List.mem_of_getElem? (i := 46) (by decide +kernel)) (by decide +kernel)) (ty := .int) rfl (n := 16) (N' := 16) (a0 := (16, .inl (fun _ => 0))) (fun _ => rfl) (by decide) (by decide) (by decide) (Nat.le_of_ble_eq_true rfl) (Nat.le_of_ble_eq_true rfl) dX2_init_15 (fun q3 cA4 H hI hK => ?_)
  have hI : Iw D base ws0 s [(h0, .inr (2, [.ref q1, .null, .null])), (q1, .inl (cA2, 16, .inl (fun _ => 0))), (q3, .inl (cA4, 16, .inl (fun _ => 0)))] H locs := hI
  have hK : va_K D vwCl [(cA2, .int), (cA4, .int)] s := hK
  refine i_putF F hI hK 0 rfl rfl inlX2 tyX2 tyX2_ok nmX2 1 (by decide) (gW_t (List.mem_of_getElem? (i := 92) (by decide +kernel)) (by decide +kernel)) rfl rfl rfl rfl rfl rfl (Nat.le_of_ble_eq_true rfl) dX2_init_17 (fun H locs hI => ?_)
  have hI : Iw D base ws0 s [(h0, .inr (2, [.ref q1, .ref q3, .null])), (q1, .inl (cA2, 16, .inl (fun _ => 0))), (q3, .inl (cA4, 16, .inl (fun _ => 0)))] H locs := hI
  have hK : va_K D vwCl [(cA2, .int), (cA4, .int)] s := hK
  refine lv_aload_n F.1 F.2.1 dX2_init_20 rfl (lv_at hl 0 rfl) ?_
  refine lv_bipush (v := nI 16) F.1 F.2.1 dX2_init_21 (by decide) ?_
  refine i_newa F hI hK (atype := .int) (gW_t (List.mem_of_getElem? (i := 46) (by decide +kernel)) (by decide +kernel)) (ty := .int) rfl (n := 16) (N' := 16) (a0 := (16, .inl (fun _ => 0))) (fun _ => rfl) (by decide) (by decide) (by decide) (Nat.le_of_ble_eq_true rfl) (Nat.le_of_ble_eq_true rfl) dX2_init_23 (fun q5 cA6 H hI hK => ?_)
  have hI : Iw D base ws0 s [(h0, .inr (2, [.ref q1, .ref q3, .null])), (q1, .inl (cA2, 16, .inl (fun _ => 0))), (q3, .inl (cA4, 16, .inl (fun _ => 0))), (q5, .inl (cA6, 16, .inl (fun _ => 0)))] H locs := hI
  have hK : va_K D vwCl [(cA2, .int), (cA4, .int), (cA6, .int)] s := hK
  refine i_putF F hI hK 0 rfl rfl inlX2 tyX2 tyX2_ok nmX2 2 (by decide) (gW_t (List.mem_of_getElem? (i := 93) (by decide +kernel)) (by decide +kernel)) rfl rfl rfl rfl rfl rfl (Nat.le_of_ble_eq_true rfl) dX2_init_25 (fun H locs hI => ?_)
  have hI : Iw D base ws0 s [(h0, .inr (2, [.ref q1, .ref q3, .ref q5])), (q1, .inl (cA2, 16, .inl (fun _ => 0))), (q3, .inl (cA4, 16, .inl (fun _ => 0))), (q5, .inl (cA6, 16, .inl (fun _ => 0)))] H locs := hI
  have hK : va_K D vwCl [(cA2, .int), (cA4, .int), (cA6, .int)] s := hK
  exact i_ret hQ F (q1, cA2, q3, cA4, q5, cA6) hI hK dX2_init_28
