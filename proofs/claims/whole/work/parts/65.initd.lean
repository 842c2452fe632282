set_option maxHeartbeats 1000000 in
set_option maxRecDepth 100000 in
theorem iX4 (l : Launch) (D : va_G) (base : Nat) (ws0 : va_W) (h0 : Nat) : CI l yX4_init cX4_init 1 1 20 17 272 D base ws0 h0 (.inr (4, [.null])) (S := Nat × ClassId × ClassId × (Nat → Nat)) (fun v => (h0, .inr (4, [.ref v.1])) :: (v.1, .inl (v.2.1, 16, .inr (.inr (.inr (.inr (fun i => if i < 16 then some (v.2.2.2 i) else none)))))) :: rowsW v.2.2.1 v.2.2.2) (fun v => [(v.2.1, .array .long), (v.2.2.1, .long)]) := by
  refine istart RX4 (by decide +kernel) rfl rfl (Nat.le_of_ble_eq_true rfl) ?_
  intro p e s m args below meth co ls Q hQ F hI hK hl
  have hl : lv_has ls 1 [(0, .ref h0)] := hl
  have hI : Iw D base ws0 s [(h0, .inr (4, [.null]))] s.heap [] := hI
  obtain ⟨cy, hcy, hcA, hcR⟩ := arrL (F.2.2.2.2.1 _ (gW_t (List.mem_of_getElem? (i := 113) (by decide +kernel)) (by decide +kernel)))
  refine lv_aload_n F.1 F.2.1 dX4_init_0 rfl (lv_at hl 0 rfl) ?_
  refine W.objInit F.1 F.2.1 F.2.2.2.1 (F.2.2.2.2.1 _ (gW_t (List.mem_of_getElem? (i := 106) (by decide +kernel)) (by decide +kernel))) (F.2.2.2.2.1 _ (gW_t (List.mem_of_getElem? (i := 21) (by decide +kernel)) (by decide +kernel))) (F.2.2.2.2.1 _ (gW_t (List.mem_of_getElem? (i := 22) (by decide +kernel)) (by decide +kernel))) rfl (by rw [F.2.2.1]; exact hl.1) rfl dX4_init_1 (Nat.le_of_ble_eq_true rfl) (Nat.le_of_ble_eq_true rfl) ?_
  refine W.eq (g2 := F0 m 4 ls []) rfl ?_
  refine lv_aload_n F.1 F.2.1 dX4_init_4 rfl (lv_at hl 0 rfl) ?_
  refine lv_bipush (v := nI 16) F.1 F.2.1 dX4_init_5 (by decide) ?_
  refine lv_bipush (v := nI 16) F.1 F.2.1 dX4_init_7 (by decide) ?_
  refine i_mna F hI hK hcy (gW_t (List.mem_of_getElem? (i := 107) (by decide +kernel)) (by decide +kernel)) (gW_t (List.mem_of_getElem? (i := 108) (by decide +kernel)) (by decide +kernel)) (gW_t (List.mem_of_getElem? (i := 113) (by decide +kernel)) (by decide +kernel)) (Nat.le_of_ble_eq_true rfl) (Nat.le_of_ble_eq_true rfl) dX4_init_9 (fun q r cA H hI hK => ?_)
  refine i_putF F hI hK 0 rfl rfl inlX4 tyX4 tyX4_ok nmX4 0 (by decide) (gW_t (List.mem_of_getElem? (i := 109) (by decide +kernel)) (by decide +kernel)) rfl rfl rfl rfl rfl rfl (Nat.le_of_ble_eq_true rfl) dX4_init_13 (fun H locs hI => ?_)
  exact i_ret hQ F (q, cA, cy, r) hI (hK.add hcA hcR) dX4_init_16
