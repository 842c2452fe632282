def outX0 (T : Nat → ClassId) (h0 : Nat) (v : S2) : va_W := [(h0, .inr (0, [.int (nI 256), .int (nI 0), .ref (v.1 0), .ref (v.1 1)])), ((v.1 0), .inl (T 0, 16, .inl (fun _ => 0))), ((v.1 1), .inl (T 0, 48, .inl (fun _ => 0)))]
set_option maxHeartbeats 1000000 in
set_option maxRecDepth 100000 in
theorem iX0 (l : Launch) (D : va_G) (T : Nat → ClassId) (base : Nat) (ws0 : va_W) (h0 : Nat) : CI l yX0_init cX0_init 1 1 20 2 64 D T base ws0 h0 (.inr (0, [.int (nI 0), .int (nI 0), .null, .null])) (outX0 T h0) := by
  refine istart RX0 (by decide +kernel) rfl rfl (Nat.le_of_ble_eq_true rfl) ?_
  intro p e s m args below meth co ls Q hQ FF hI hl
  have F := FF.1
  have hnn := FF.2.2.2
  have hx := F.1
  have hy := F.2.1
  have hl : lv_has ls 1 [(0, .ref h0)] := hl
  have hI : Iw D base ws0 s [(h0, .inr (0, [.int (nI 0), .int (nI 0), .null, .null]))] s.heap [] := hI
  refine lv_aload_n hx hy dX0_init_0 rfl (lv_at hl 0 rfl) ?_
  refine W.objInit hx hy F.2.2.2.1 (F.2.2.2.2.1 _ (gW_t (List.mem_of_getElem? (i := 23) (by decide +kernel)) (by decide +kernel))) (F.2.2.2.2.1 _ (gW_t (List.mem_of_getElem? (i := 16) (by decide +kernel)) (by decide +kernel))) (F.2.2.2.2.1 _ (gW_t (List.mem_of_getElem? (i := 17) (by decide +kernel)) (by decide +kernel))) rfl (by rw [F.2.2.1]; exact hl.1) rfl dX0_init_1 (Nat.le_of_ble_eq_true rfl) (Nat.le_of_ble_eq_true rfl) ?_
  refine W.eq (g2 := F0 m 4 ls []) rfl ?_
  refine lv_aload_n hx hy dX0_init_4 rfl (lv_at hl 0 rfl) ?_
  refine lv_sipush (v := nI 256) hx hy dX0_init_5 (by decide) ?_
  refine i_put F hI 0 rfl rfl inlX0 tyX0 tyX0_ok nmX0 0 (by decide) (gW_t (List.mem_of_getElem? (i := 24) (by decide +kernel)) (by decide +kernel)) rfl rfl rfl rfl rfl (Nat.le_of_ble_eq_true rfl) dX0_init_8 (fun H locs hI => ?_)
  have hI : Iw D base ws0 s [(h0, .inr (0, [.int (nI 256), .int (nI 0), .null, .null]))] H locs := hI
  refine lv_aload_n hx hy dX0_init_11 rfl (lv_at hl 0 rfl) ?_
  refine lv_iconst (v := nI 0) hx hy dX0_init_12 (by decide) ?_
  refine i_put F hI 0 rfl rfl inlX0 tyX0 tyX0_ok nmX0 1 (by decide) (gW_t (List.mem_of_getElem? (i := 26) (by decide +kernel)) (by decide +kernel)) rfl rfl rfl rfl rfl (Nat.le_of_ble_eq_true rfl) dX0_init_13 (fun H locs hI => ?_)
  have hI : Iw D base ws0 s [(h0, .inr (0, [.int (nI 256), .int (nI 0), .null, .null]))] H locs := hI
  refine lv_aload_n hx hy dX0_init_16 rfl (lv_at hl 0 rfl) ?_
  refine lv_bipush (v := nI 16) hx hy dX0_init_17 (by decide) ?_
  refine i_newa F hI (atype := .int) (gW_t (List.mem_of_getElem? (i := 40) (by decide +kernel)) (by decide +kernel)) (ty := .int) rfl 0 rfl (n := 16) (N' := 16) (a0 := (16, .inl (fun _ => 0))) (fun _ => rfl) (by decide) (by decide) (by decide) (Nat.le_of_ble_eq_true rfl) (Nat.le_of_ble_eq_true rfl) dX0_init_19 (fun q1 H hI => ?_)
  have hI : Iw D base ws0 s [(h0, .inr (0, [.int (nI 256), .int (nI 0), .null, .null])), (q1, .inl (T 0, 16, .inl (fun _ => 0)))] H locs := hI
  refine i_putF F hnn hI 0 rfl rfl inlX0 tyX0 tyX0_ok nmX0 2 (by decide) (gW_t (List.mem_of_getElem? (i := 29) (by decide +kernel)) (by decide +kernel)) rfl rfl rfl rfl rfl rfl (Nat.le_of_ble_eq_true rfl) dX0_init_21 (fun H locs hI => ?_)
  have hI : Iw D base ws0 s [(h0, .inr (0, [.int (nI 256), .int (nI 0), .ref q1, .null])), (q1, .inl (T 0, 16, .inl (fun _ => 0)))] H locs := hI
  refine lv_aload_n hx hy dX0_init_24 rfl (lv_at hl 0 rfl) ?_
  refine lv_bipush (v := nI 48) hx hy dX0_init_25 (by decide) ?_
  refine i_newa F hI (atype := .int) (gW_t (List.mem_of_getElem? (i := 40) (by decide +kernel)) (by decide +kernel)) (ty := .int) rfl 0 rfl (n := 48) (N' := 48) (a0 := (48, .inl (fun _ => 0))) (fun _ => rfl) (by decide) (by decide) (by decide) (Nat.le_of_ble_eq_true rfl) (Nat.le_of_ble_eq_true rfl) dX0_init_27 (fun q2 H hI => ?_)
  have hI : Iw D base ws0 s [(h0, .inr (0, [.int (nI 256), .int (nI 0), .ref q1, .null])), (q1, .inl (T 0, 16, .inl (fun _ => 0))), (q2, .inl (T 0, 48, .inl (fun _ => 0)))] H locs := hI
  refine i_putF F hnn hI 0 rfl rfl inlX0 tyX0 tyX0_ok nmX0 3 (by decide) (gW_t (List.mem_of_getElem? (i := 30) (by decide +kernel)) (by decide +kernel)) rfl rfl rfl rfl rfl rfl (Nat.le_of_ble_eq_true rfl) dX0_init_29 (fun H locs hI => ?_)
  have hI : Iw D base ws0 s [(h0, .inr (0, [.int (nI 256), .int (nI 0), .ref q1, .ref q2])), (q1, .inl (T 0, 16, .inl (fun _ => 0))), (q2, .inl (T 0, 48, .inl (fun _ => 0)))] H locs := hI
  exact i_ret hQ FF (fun k => [q1, q2].getD k 0, fun _ => 0) hI (Nat.le_of_ble_eq_true rfl) (Nat.le_of_ble_eq_true rfl) dX0_init_32
def outX1 (T : Nat → ClassId) (h0 : Nat) (v : S2) : va_W := [(h0, .inr (1, [.ref (v.1 0), .int (nI 0), .int (nI 0)])), ((v.1 0), .inl (T 1, 80, .inl (fun _ => 0)))]
set_option maxHeartbeats 1000000 in
set_option maxRecDepth 100000 in
theorem iX1 (l : Launch) (D : va_G) (T : Nat → ClassId) (base : Nat) (ws0 : va_W) (h0 : Nat) : CI l yX1_init cX1_init 1 1 20 1 80 D T base ws0 h0 (.inr (1, [.null, .int (nI 0), .int (nI 0)])) (outX1 T h0) := by
  refine istart RX1 (by decide +kernel) rfl rfl (Nat.le_of_ble_eq_true rfl) ?_
  intro p e s m args below meth co ls Q hQ FF hI hl
  have F := FF.1
  have hnn := FF.2.2.2
  have hx := F.1
  have hy := F.2.1
  have hl : lv_has ls 1 [(0, .ref h0)] := hl
  have hI : Iw D base ws0 s [(h0, .inr (1, [.null, .int (nI 0), .int (nI 0)]))] s.heap [] := hI
  refine lv_aload_n hx hy dX1_init_0 rfl (lv_at hl 0 rfl) ?_
  refine W.objInit hx hy F.2.2.2.1 (F.2.2.2.2.1 _ (gW_t (List.mem_of_getElem? (i := 66) (by decide +kernel)) (by decide +kernel))) (F.2.2.2.2.1 _ (gW_t (List.mem_of_getElem? (i := 16) (by decide +kernel)) (by decide +kernel))) (F.2.2.2.2.1 _ (gW_t (List.mem_of_getElem? (i := 17) (by decide +kernel)) (by decide +kernel))) rfl (by rw [F.2.2.1]; exact hl.1) rfl dX1_init_1 (Nat.le_of_ble_eq_true rfl) (Nat.le_of_ble_eq_true rfl) ?_
  refine W.eq (g2 := F0 m 4 ls []) rfl ?_
  refine lv_aload_n hx hy dX1_init_4 rfl (lv_at hl 0 rfl) ?_
  refine lv_bipush (v := nI 80) hx hy dX1_init_5 (by decide) ?_
  refine i_newa F hI (atype := .char) (gW_t (List.mem_of_getElem? (i := 78) (by decide +kernel)) (by decide +kernel)) (ty := .char) rfl 1 rfl (n := 80) (N' := 80) (a0 := (80, .inl (fun _ => 0))) (fun _ => rfl) (by decide) (by decide) (by decide) (Nat.le_of_ble_eq_true rfl) (Nat.le_of_ble_eq_true rfl) dX1_init_7 (fun q1 H hI => ?_)
  have hI : Iw D base ws0 s [(h0, .inr (1, [.null, .int (nI 0), .int (nI 0)])), (q1, .inl (T 1, 80, .inl (fun _ => 0)))] H [] := hI
  refine i_putF F hnn hI 0 rfl rfl inlX1 tyX1 tyX1_ok nmX1 0 (by decide) (gW_t (List.mem_of_getElem? (i := 67) (by decide +kernel)) (by decide +kernel)) rfl rfl rfl rfl rfl rfl (Nat.le_of_ble_eq_true rfl) dX1_init_9 (fun H locs hI => ?_)
  have hI : Iw D base ws0 s [(h0, .inr (1, [.ref q1, .int (nI 0), .int (nI 0)])), (q1, .inl (T 1, 80, .inl (fun _ => 0)))] H locs := hI
  refine lv_aload_n hx hy dX1_init_12 rfl (lv_at hl 0 rfl) ?_
  refine lv_iconst (v := nI 0) hx hy dX1_init_13 (by decide) ?_
  refine i_put F hI 0 rfl rfl inlX1 tyX1 tyX1_ok nmX1 1 (by decide) (gW_t (List.mem_of_getElem? (i := 68) (by decide +kernel)) (by decide +kernel)) rfl rfl rfl rfl rfl (Nat.le_of_ble_eq_true rfl) dX1_init_14 (fun H locs hI => ?_)
  have hI : Iw D base ws0 s [(h0, .inr (1, [.ref q1, .int (nI 0), .int (nI 0)])), (q1, .inl (T 1, 80, .inl (fun _ => 0)))] H locs := hI
  refine lv_aload_n hx hy dX1_init_17 rfl (lv_at hl 0 rfl) ?_
  refine lv_iconst (v := nI 0) hx hy dX1_init_18 (by decide) ?_
  refine i_put F hI 0 rfl rfl inlX1 tyX1 tyX1_ok nmX1 2 (by decide) (gW_t (List.mem_of_getElem? (i := 70) (by decide +kernel)) (by decide +kernel)) rfl rfl rfl rfl rfl (Nat.le_of_ble_eq_true rfl) dX1_init_19 (fun H locs hI => ?_)
  have hI : Iw D base ws0 s [(h0, .inr (1, [.ref q1, .int (nI 0), .int (nI 0)])), (q1, .inl (T 1, 80, .inl (fun _ => 0)))] H locs := hI
  exact i_ret hQ FF (fun k => [q1].getD k 0, fun _ => 0) hI (Nat.le_of_ble_eq_true rfl) (Nat.le_of_ble_eq_true rfl) dX1_init_22
def outX2 (T : Nat → ClassId) (h0 : Nat) (v : S2) : va_W := [(h0, .inr (2, [.ref (v.1 0), .ref (v.1 1), .ref (v.1 2)])), ((v.1 0), .inl (T 0, 16, .inl (fun _ => 0))), ((v.1 1), .inl (T 0, 16, .inl (fun _ => 0))), ((v.1 2), .inl (T 0, 16, .inl (fun _ => 0)))]
set_option maxHeartbeats 1000000 in
set_option maxRecDepth 100000 in
theorem iX2 (l : Launch) (D : va_G) (T : Nat → ClassId) (base : Nat) (ws0 : va_W) (h0 : Nat) : CI l yX2_init cX2_init 1 1 20 3 48 D T base ws0 h0 (.inr (2, [.null, .null, .null])) (outX2 T h0) := by
  refine istart RX2 (by decide +kernel) rfl rfl (Nat.le_of_ble_eq_true rfl) ?_
  intro p e s m args below meth co ls Q hQ FF hI hl
  have F := FF.1
  have hnn := FF.2.2.2
  have hx := F.1
  have hy := F.2.1
  have hl : lv_has ls 1 [(0, .ref h0)] := hl
  have hI : Iw D base ws0 s [(h0, .inr (2, [.null, .null, .null]))] s.heap [] := hI
  refine lv_aload_n hx hy dX2_init_0 rfl (lv_at hl 0 rfl) ?_
  refine W.objInit hx hy F.2.2.2.1 (F.2.2.2.2.1 _ (gW_t (List.mem_of_getElem? (i := 84) (by decide +kernel)) (by decide +kernel))) (F.2.2.2.2.1 _ (gW_t (List.mem_of_getElem? (i := 16) (by decide +kernel)) (by decide +kernel))) (F.2.2.2.2.1 _ (gW_t (List.mem_of_getElem? (i := 17) (by decide +kernel)) (by decide +kernel))) rfl (by rw [F.2.2.1]; exact hl.1) rfl dX2_init_1 (Nat.le_of_ble_eq_true rfl) (Nat.le_of_ble_eq_true rfl) ?_
  refine W.eq (g2 := F0 m 4 ls []) rfl ?_
  refine lv_aload_n hx hy dX2_init_4 rfl (lv_at hl 0 rfl) ?_
  refine lv_bipush (v := nI 16) hx hy dX2_init_5 (by decide) ?_
  refine i_newa F hI (atype := .int) (gW_t (List.mem_of_getElem? (i := 40) (by decide +kernel)) (by decide +kernel)) (ty := .int) rfl 0 rfl (n := 16) (N' := 16) (a0 := (16, .inl (fun _ => 0))) (fun _ => rfl) (by decide) (by decide) (by decide) (Nat.le_of_ble_eq_true rfl) (Nat.le_of_ble_eq_true rfl) dX2_init_7 (fun q1 H hI => ?_)
  have hI : Iw D base ws0 s [(h0, .inr (2, [.null, .null, .null])), (q1, .inl (T 0, 16, .inl (fun _ => 0)))] H [] := hI
  refine i_putF F hnn hI 0 rfl rfl inlX2 tyX2 tyX2_ok nmX2 0 (by decide) (gW_t (List.mem_of_getElem? (i := 85) (by decide +kernel)) (by decide +kernel)) rfl rfl rfl rfl rfl rfl (Nat.le_of_ble_eq_true rfl) dX2_init_9 (fun H locs hI => ?_)
  have hI : Iw D base ws0 s [(h0, .inr (2, [.ref q1, .null, .null])), (q1, .inl (T 0, 16, .inl (fun _ => 0)))] H locs := hI
  refine lv_aload_n hx hy dX2_init_12 rfl (lv_at hl 0 rfl) ?_
  refine lv_bipush (v := nI 16) hx hy dX2_init_13 (by decide) ?_
  refine i_newa F hI (atype := .int) (gW_t (List.mem_of_getElem? (i := 40) (by decide +kernel)) (by decide +kernel)) (ty := .int) rfl 0 rfl (n := 16) (N' := 16) (a0 := (16, .inl (fun _ => 0))) (fun _ => rfl) (by decide) (by decide) (by decide) (Nat.le_of_ble_eq_true rfl) (Nat.le_of_ble_eq_true rfl) dX2_init_15 (fun q2 H hI => ?_)
  have hI : Iw D base ws0 s [(h0, .inr (2, [.ref q1, .null, .null])), (q1, .inl (T 0, 16, .inl (fun _ => 0))), (q2, .inl (T 0, 16, .inl (fun _ => 0)))] H locs := hI
  refine i_putF F hnn hI 0 rfl rfl inlX2 tyX2 tyX2_ok nmX2 1 (by decide) (gW_t (List.mem_of_getElem? (i := 86) (by decide +kernel)) (by decide +kernel)) rfl rfl rfl rfl rfl rfl (Nat.le_of_ble_eq_true rfl) dX2_init_17 (fun H locs hI => ?_)
  have hI : Iw D base ws0 s [(h0, .inr (2, [.ref q1, .ref q2, .null])), (q1, .inl (T 0, 16, .inl (fun _ => 0))), (q2, .inl (T 0, 16, .inl (fun _ => 0)))] H locs := hI
  refine lv_aload_n hx hy dX2_init_20 rfl (lv_at hl 0 rfl) ?_
  refine lv_bipush (v := nI 16) hx hy dX2_init_21 (by decide) ?_
  refine i_newa F hI (atype := .int) (gW_t (List.mem_of_getElem? (i := 40) (by decide +kernel)) (by decide +kernel)) (ty := .int) rfl 0 rfl (n := 16) (N' := 16) (a0 := (16, .inl (fun _ => 0))) (fun _ => rfl) (by decide) (by decide) (by decide) (Nat.le_of_ble_eq_true rfl) (Nat.le_of_ble_eq_true rfl) dX2_init_23 (fun q3 H hI => ?_)
  have hI : Iw D base ws0 s [(h0, .inr (2, [.ref q1, .ref q2, .null])), (q1, .inl (T 0, 16, .inl (fun _ => 0))), (q2, .inl (T 0, 16, .inl (fun _ => 0))), (q3, .inl (T 0, 16, .inl (fun _ => 0)))] H locs := hI
  refine i_putF F hnn hI 0 rfl rfl inlX2 tyX2 tyX2_ok nmX2 2 (by decide) (gW_t (List.mem_of_getElem? (i := 87) (by decide +kernel)) (by decide +kernel)) rfl rfl rfl rfl rfl rfl (Nat.le_of_ble_eq_true rfl) dX2_init_25 (fun H locs hI => ?_)
  have hI : Iw D base ws0 s [(h0, .inr (2, [.ref q1, .ref q2, .ref q3])), (q1, .inl (T 0, 16, .inl (fun _ => 0))), (q2, .inl (T 0, 16, .inl (fun _ => 0))), (q3, .inl (T 0, 16, .inl (fun _ => 0)))] H locs := hI
  exact i_ret hQ FF (fun k => [q1, q2, q3].getD k 0, fun _ => 0) hI (Nat.le_of_ble_eq_true rfl) (Nat.le_of_ble_eq_true rfl) dX2_init_28
