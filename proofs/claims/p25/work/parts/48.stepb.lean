set_option maxHeartbeats 400000 in
set_option maxRecDepth 100000 in
theorem sg236 {p : Program} {l : Launch} {e : Env} {s : State} {m : MethodId} {args : Array Value} {below : List Frame} {meth : Method} {co : Code} {H : Heap} {locs : List Loc} {ls : Array Slot} {Q : State → Prop} {E0 E1 E2 : EV} {u w : SS} {X Y : XS} (hQ : MQ below (Q2 E0 E1 E2 P2) args s 0 0 (eR E0) = Q) (F : Fx E0 p s m args meth co cL_isStep 13 RL (some .boolean)) (hT : Two E0 E1 E2) (hI : Iv2 E0 E1 E2 s H locs u w) (hCa : RepC u.1 X) (hCb : RepC w.1 Y) (hR : Rl X Y) (x y z : Int32) (n i j k : Nat) (hn : X.1.1 = n) (hi : i < n + 1) (hj : j < n + 1) (hk3 : k < n + 1) (hlt : n < 8) (hl : lv_has ls 13 [(0, .ref (eA E1 0)), (1, .ref (eA E2 0)), (2, .int (x)), (3, .int (y)), (4, .int (nI n)), (5, .int (z)), (6, .int (nI i)), (7, .int (nI j)), (8, .int (nI k))]) : W p l e (Rm 9 221) s m args below meth co H locs 0 0 Q (F0 m 236 ls []) := by
  have hx := F.1
  have hy := F.2.1
  have hXa := hR.1
  have hXb := hR.2.1
  have h8 := hR.2.2.1
  have hYn := hR.2.2.2.1
  have hYl := hR.2.2.2.2.1
  have hl1 := hXa.1.2.1
  have hl2 := hXa.1.2.2.1
  refine lv_iconst (v := nI 1) hx hy dL_isStep_236 (by decide) ?_
  refine lv_iload hx hy dL_isStep_237 (lv_at hl 5 rfl) ?_
  refine lv_iconst (v := nI 3) hx hy dL_isStep_239 (by decide) ?_
  refine za hT hI (xSa F hT hI hl (kL_up l E1 u z 3 (by omega) (by omega)) M_L_15 rfl ⟨Nat.le_of_ble_eq_true rfl, Nat.le_of_ble_eq_true rfl⟩ ⟨Nat.zero_le _, Nat.zero_le _⟩ rfl (Nat.le_of_ble_eq_true rfl) dL_isStep_240) (fun r2 v3 H locs hI hp1 => ?_)
  obtain ⟨kd, hkd, hp1⟩ := hp1
  subst hp1
  have hI : Iv2 E0 E1 E2 s H locs u w := hI
  refine lv_iadd hx hy dL_isStep_243 ?_
  refine tI (nI_add (1) (kd)) ?_
  refine lv_istore (lv' := [(10, .int (nI (1 + kd))), (0, .ref (eA E1 0)), (1, .ref (eA E2 0)), (2, .int (x)), (3, .int (y)), (4, .int (nI n)), (5, .int (z)), (6, .int (nI i)), (7, .int (nI j)), (8, .int (nI k))]) hx hy dL_isStep_244 hl (by decide) rfl (fun ls hl => ?_)
  refine lv_iload hx hy dL_isStep_246 (lv_at hl 7 rfl) ?_
  refine lv_iload hx hy dL_isStep_248 (lv_at hl 5 rfl) ?_
  refine lv_icmp_eq (tgt := 260) hx hy dL_isStep_250 (by decide) (fun h4 => ?_) (fun h4 => ?_)
  · have h4 : i = n := (nI_eq (a := i) (b := n) (by omega) (by omega)).mp h4
    refine lv_aload_n hx hy dL_isStep_260 rfl (lv_at hl 1 rfl) ?_
    refine lv_iload hx hy dL_isStep_261 (lv_at hl 0 rfl) ?_
    refine lv_iload hx hy dL_isStep_263 (lv_at hl 7 rfl) ?_
    refine lv_iload hx hy dL_isStep_265 (lv_at hl 8 rfl) ?_
    refine za hT hI (xVa F hT hI hl (kX5_gate l E1 u (X := X) hCa hXa (nI (1 + kd)) (nI i) (nI j)) M_L_31 (rX5a F hT hI) rfl ⟨Nat.le_of_ble_eq_true rfl, Nat.le_of_ble_eq_true rfl⟩ ⟨Nat.zero_le _, Nat.zero_le _⟩ rfl (Nat.le_of_ble_eq_true rfl) dL_isStep_267) (fun r6 v7 H locs hI hp5 => ?_)
    obtain ⟨hq8, hC9⟩ := u_gate hp5 hXa (by omega) (by omega) (by omega)
    refine tI (show _ = (-100000001 : Int32) from hq8) ?_
    refine zc F K_L_35 dL_isStep_270 ?_
    refine lv_icmp_ne (tgt := 279) hx hy dL_isStep_272 (by decide) (fun q => absurd q (by decide)) (fun _ => ?_)
    refine lv_iconst (v := nI 1) hx hy dL_isStep_275 (by decide) ?_
    refine lv_goto (tgt := 280) hx hy dL_isStep_276 (by decide) ?_
    exact rZ2 hQ F rfl hI dL_isStep_280 ⟨rfl, X, Y, hR, hC9, hCb⟩
  · have h4 : i ≠ n := fun q9 => h4 ((nI_eq (a := i) (b := n) (by omega) (by omega)).mpr q9)
    refine lv_iload hx hy dL_isStep_253 (lv_at hl 8 rfl) ?_
    refine lv_iload hx hy dL_isStep_255 (lv_at hl 5 rfl) ?_
    refine lv_icmp_ne (tgt := 281) hx hy dL_isStep_257 (by decide) (fun h11 => ?_) (fun h11 => ?_)
    · have h11 : j ≠ n := fun q9 => h11 ((nI_eq (a := j) (b := n) (by omega) (by omega)).mpr q9)
      rcases (show kd = 0 ∨ kd = 1 ∨ kd = 2 by omega) with rfl | rfl | rfl
      · have hl : lv_has ls 13 [(10, .int (nI 1)), (0, .ref (eA E1 0)), (1, .ref (eA E2 0)), (2, .int (x)), (3, .int (y)), (4, .int (nI n)), (5, .int (z)), (6, .int (nI i)), (7, .int (nI j)), (8, .int (nI k))] := hl
        refine lv_iload hx hy dL_isStep_281 (lv_at hl 0 rfl) ?_
        refine lv_iconst (v := nI 3) hx hy dL_isStep_283 (by decide) ?_
        refine lv_icmp_ne (tgt := 348) hx hy dL_isStep_284 (by decide) (fun _ => ?_) (fun q => absurd q (by decide))
        refine lv_aload_n hx hy dL_isStep_348 rfl (lv_at hl 1 rfl) ?_
        refine lv_iload hx hy dL_isStep_349 (lv_at hl 0 rfl) ?_
        refine lv_iload hx hy dL_isStep_351 (lv_at hl 7 rfl) ?_
        refine lv_iload hx hy dL_isStep_353 (lv_at hl 8 rfl) ?_
        refine za hT hI (xVa F hT hI hl (kX5_gate l E1 u (X := X) hCa hXa (nI 1) (nI i) (nI j)) M_L_31 (rX5a F hT hI) rfl ⟨Nat.le_of_ble_eq_true rfl, Nat.le_of_ble_eq_true rfl⟩ ⟨Nat.zero_le _, Nat.zero_le _⟩ rfl (Nat.le_of_ble_eq_true rfl) dL_isStep_355) (fun r13 v14 H locs hI hp12 => ?_)
        obtain ⟨hq15, hC16, hX17⟩ := t_gate (m := n) hp12 hXa (by first | omega | (simp only [addS_n, dropS_n]; omega)) (by omega) (by omega) (by omega) (by omega) (by omega)
        refine tI (show _ = nI n from hq15) ?_
        refine lv_iload hx hy dL_isStep_358 (lv_at hl 5 rfl) ?_
        refine lv_icmp_ne (tgt := 455) hx hy dL_isStep_360 (by decide) (fun q => absurd rfl q) (fun h18 => ?_)
        refine lv_aload_n hx hy dL_isStep_363 rfl (lv_at hl 2 rfl) ?_
        refine lv_iconst (v := nI 3) hx hy dL_isStep_364 (by decide) ?_
        refine lv_iload hx hy dL_isStep_365 (lv_at hl 0 rfl) ?_
        refine lv_isub hx hy dL_isStep_367 ?_
        refine tI (pk_sub (a := 3) (b := 1) (by omega)) ?_
        refine lv_iconst (v := nI 2) hx hy dL_isStep_368 (by decide) ?_
        refine lv_iload hx hy dL_isStep_369 (lv_at hl 7 rfl) ?_
        refine lv_imul hx hy dL_isStep_371 ?_
        refine tI (pk_mul (2) (i)) ?_
        refine lv_iconst (v := nI 1) hx hy dL_isStep_372 (by decide) ?_
        refine lv_iadd hx hy dL_isStep_373 ?_
        refine tI (nI_add (2 * i) (1)) ?_
        refine lv_iconst (v := nI 2) hx hy dL_isStep_374 (by decide) ?_
        refine lv_iload hx hy dL_isStep_375 (lv_at hl 8 rfl) ?_
        refine lv_imul hx hy dL_isStep_377 ?_
        refine tI (pk_mul (2) (j)) ?_
        refine lv_iconst (v := nI 1) hx hy dL_isStep_378 (by decide) ?_
        refine lv_iadd hx hy dL_isStep_379 ?_
        refine tI (nI_add (2 * j) (1)) ?_
        refine zb hT hI (xVb F hT hI hl (kX5_gate l E2 w (X := Y) hCb hXb (nI (3 - 1)) (nI (2 * i + 1)) (nI (2 * j + 1))) M_L_31 (rX5b F hT hI) rfl ⟨Nat.le_of_ble_eq_true rfl, Nat.le_of_ble_eq_true rfl⟩ ⟨Nat.zero_le _, Nat.zero_le _⟩ rfl (Nat.le_of_ble_eq_true rfl) dL_isStep_380) (fun r20 v21 H locs hI hp19 => ?_)
        obtain ⟨hq22, hC23, hX24⟩ := t_gate (m := 2 * n) hp19 hXb (by first | omega | (simp only [addS_n, dropS_n]; omega)) (by omega) (by omega) (by omega) (by omega) (by omega)
        refine tI (show _ = nI (2 * n) from hq22) ?_
        refine lv_iconst (v := nI 2) hx hy dL_isStep_383 (by decide) ?_
        refine lv_iload hx hy dL_isStep_384 (lv_at hl 5 rfl) ?_
        refine lv_imul hx hy dL_isStep_386 ?_
        refine tI (pk_mul (2) (n)) ?_
        refine lv_icmp_ne (tgt := 455) hx hy dL_isStep_387 (by decide) (fun q => absurd rfl q) (fun h25 => ?_)
        refine lv_aload_n hx hy dL_isStep_390 rfl (lv_at hl 2 rfl) ?_
        refine lv_iconst (v := nI 2) hx hy dL_isStep_391 (by decide) ?_
        refine lv_iload hx hy dL_isStep_392 (lv_at hl 5 rfl) ?_
        refine lv_imul hx hy dL_isStep_394 ?_
        refine tI (pk_mul (2) (n)) ?_
        refine zb hT hI (xVb F hT hI hl (kX5_turn l E2 v21 (X := (addS Y (3 - 1, 2 * i + 1, 2 * j + 1, 0))) hC23 hX24 (nI (2 * n))) M_L_28 (rX5b F hT hI) rfl ⟨Nat.le_of_ble_eq_true rfl, Nat.le_of_ble_eq_true rfl⟩ ⟨Nat.zero_le _, Nat.zero_le _⟩ rfl (Nat.le_of_ble_eq_true rfl) dL_isStep_395) (fun r27 v28 H locs hI hp26 => ?_)
        obtain ⟨hq29, hC30, hX31⟩ := t_turn (m := 2 * n + 1) hp26 hX24 (by first | omega | (simp only [addS_n, dropS_n]; omega)) (by omega) (by omega)
        refine tI (show _ = nI (2 * n + 1) from hq29) ?_
        refine lv_iconst (v := nI 2) hx hy dL_isStep_398 (by decide) ?_
        refine lv_iload hx hy dL_isStep_399 (lv_at hl 5 rfl) ?_
        refine lv_imul hx hy dL_isStep_401 ?_
        refine tI (pk_mul (2) (n)) ?_
        refine lv_iconst (v := nI 1) hx hy dL_isStep_402 (by decide) ?_
        refine lv_iadd hx hy dL_isStep_403 ?_
        refine tI (nI_add (2 * n) (1)) ?_
        refine lv_icmp_ne (tgt := 455) hx hy dL_isStep_404 (by decide) (fun q => absurd rfl q) (fun h32 => ?_)
        refine lv_aload_n hx hy dL_isStep_407 rfl (lv_at hl 2 rfl) ?_
        refine lv_iconst (v := nI 2) hx hy dL_isStep_408 (by decide) ?_
        refine lv_iload hx hy dL_isStep_409 (lv_at hl 5 rfl) ?_
        refine lv_imul hx hy dL_isStep_411 ?_
        refine tI (pk_mul (2) (n)) ?_
        refine lv_iconst (v := nI 1) hx hy dL_isStep_412 (by decide) ?_
        refine lv_iadd hx hy dL_isStep_413 ?_
        refine tI (nI_add (2 * n) (1)) ?_
        refine lv_iconst (v := nI 4) hx hy dL_isStep_414 (by decide) ?_
        refine zb hT hI (xVb F hT hI hl (kX5_line l E2 v28 (X := (addS (addS Y (3 - 1, 2 * i + 1, 2 * j + 1, 0)) (5, 2 * n, 0, 0))) hC30 hX31 (nI (2 * n + 1)) (nI 4)) M_L_36 (rX5b F hT hI) rfl ⟨Nat.le_of_ble_eq_true rfl, Nat.le_of_ble_eq_true rfl⟩ ⟨Nat.zero_le _, Nat.zero_le _⟩ rfl (Nat.le_of_ble_eq_true rfl) dL_isStep_415) (fun r34 v35 H locs hI hp33 => ?_)
        obtain ⟨hq36, hC37⟩ := q_line hp33 hX31 (by simp only [addS_n]; omega) (by decide)
        refine tI (show _ = nI (cnt (addS (addS Y (3 - 1, 2 * i + 1, 2 * j + 1, 0)) (5, 2 * n, 0, 0)).1.2.2 (2 * n + 1) (addS (addS Y (3 - 1, 2 * i + 1, 2 * j + 1, 0)) (5, 2 * n, 0, 0)).1.2.1) from hq36) ?_
        refine lv_aload_n hx hy dL_isStep_418 rfl (lv_at hl 1 rfl) ?_
        refine lv_iload hx hy dL_isStep_419 (lv_at hl 5 rfl) ?_
        refine lv_iconst (v := nI 4) hx hy dL_isStep_421 (by decide) ?_
        refine za hT hI (xVa F hT hI hl (kX5_line l E1 v14 (X := (addS X (1, i, j, 0))) hC16 hX17 (nI n) (nI 4)) M_L_36 (rX5a F hT hI) rfl ⟨Nat.le_of_ble_eq_true rfl, Nat.le_of_ble_eq_true rfl⟩ ⟨Nat.zero_le _, Nat.zero_le _⟩ rfl (Nat.le_of_ble_eq_true rfl) dL_isStep_422) (fun r39 v40 H locs hI hp38 => ?_)
        obtain ⟨hq41, hC42⟩ := q_line hp38 hX17 (by simp only [addS_n]; omega) (by decide)
        refine tI (show _ = nI (cnt (addS X (1, i, j, 0)).1.2.2 n (addS X (1, i, j, 0)).1.2.1) from hq41) ?_
        have hg := hR.gate9 hn (by omega) (k := 1) (i := i) (j := j) (by decide) (by omega) (by omega) hX17 hX31
        refine lv_icmp_ne (tgt := 455) hx hy dL_isStep_425 (by decide) (fun q => absurd (congrArg nI (show cnt (addS (addS Y (3 - 1, 2 * i + 1, 2 * j + 1, 0)) (5, 2 * n, 0, 0)).1.2.2 (2 * n + 1) (addS (addS Y (3 - 1, 2 * i + 1, 2 * j + 1, 0)) (5, 2 * n, 0, 0)).1.2.1 = cnt (addS X (1, i, j, 0)).1.2.2 n (addS X (1, i, j, 0)).1.2.1 from by rw [addS_len, addS_len, addS_len, hYl]; exact cnt_same hg.2 _)) q) (fun h43 => ?_)
        refine lv_aload_n hx hy dL_isStep_428 rfl (lv_at hl 2 rfl) ?_
        refine lv_iconst (v := nI 2) hx hy dL_isStep_429 (by decide) ?_
        refine lv_iload hx hy dL_isStep_430 (lv_at hl 5 rfl) ?_
        refine lv_imul hx hy dL_isStep_432 ?_
        refine tI (pk_mul (2) (n)) ?_
        refine lv_bipush (v := nI 33) hx hy dL_isStep_433 (by decide) ?_
        refine zb hT hI (xVb F hT hI hl (kX5_bit l E2 v35 (X := (addS (addS Y (3 - 1, 2 * i + 1, 2 * j + 1, 0)) (5, 2 * n, 0, 0))) hC37 hX31 (nI (2 * n)) (nI 33)) M_L_39 (rX5b F hT hI) rfl ⟨Nat.le_of_ble_eq_true rfl, Nat.le_of_ble_eq_true rfl⟩ ⟨Nat.zero_le _, Nat.zero_le _⟩ rfl (Nat.le_of_ble_eq_true rfl) dL_isStep_435) (fun r45 v46 H locs hI hp44 => ?_)
        obtain ⟨hq47, hC48⟩ := q_bit hp44 hX31 (by simp only [addS_n]; omega) (by omega)
        refine tI (show _ = nI (bN (bt (addS (addS Y (3 - 1, 2 * i + 1, 2 * j + 1, 0)) (5, 2 * n, 0, 0)).1.2.2 (2 * n) 33)) from hq47) ?_
        refine lv_iconst (v := nI 1) hx hy dL_isStep_438 (by decide) ?_
        refine lv_aload_n hx hy dL_isStep_439 rfl (lv_at hl 1 rfl) ?_
        refine lv_iload hx hy dL_isStep_440 (lv_at hl 5 rfl) ?_
        refine lv_bipush (v := nI 33) hx hy dL_isStep_442 (by decide) ?_
        refine za hT hI (xVa F hT hI hl (kX5_bit l E1 v40 (X := (addS X (1, i, j, 0))) hC42 hX17 (nI n) (nI 33)) M_L_39 (rX5a F hT hI) rfl ⟨Nat.le_of_ble_eq_true rfl, Nat.le_of_ble_eq_true rfl⟩ ⟨Nat.zero_le _, Nat.zero_le _⟩ rfl (Nat.le_of_ble_eq_true rfl) dL_isStep_444) (fun r50 v51 H locs hI hp49 => ?_)
        obtain ⟨hq52, hC53⟩ := q_bit hp49 hX17 (by simp only [addS_n]; omega) (by omega)
        refine tI (show _ = nI (bN (bt (addS X (1, i, j, 0)).1.2.2 n 33)) from hq52) ?_
        refine lv_isub hx hy dL_isStep_447 ?_
        refine tI (pk_sub (a := 1) (b := bN (bt (addS X (1, i, j, 0)).1.2.2 n 33)) (bN_le _)) ?_
        refine lv_icmp_ne (tgt := 455) hx hy dL_isStep_448 (by decide) (fun q => absurd (congrArg nI ((congrArg bN (hg.1 33)).trans (bN_not _))) q) (fun h54 => ?_)
        refine lv_iconst (v := nI 1) hx hy dL_isStep_451 (by decide) ?_
        refine lv_goto (tgt := 456) hx hy dL_isStep_452 (by decide) ?_
        refine lv_istore (lv' := [(11, .int (nI 1)), (10, .int (nI 1)), (0, .ref (eA E1 0)), (1, .ref (eA E2 0)), (2, .int (x)), (3, .int (y)), (4, .int (nI n)), (5, .int (z)), (6, .int (nI i)), (7, .int (nI j)), (8, .int (nI k))]) hx hy dL_isStep_456 hl (by decide) rfl (fun ls hl => ?_)
        refine lv_iload hx hy dL_isStep_458 (lv_at hl 0 rfl) ?_
        refine lv_if_eq (tgt := 529) hx hy dL_isStep_460 (by decide) (fun q => absurd q (by decide)) (fun _ => ?_)
        refine lv_aload_n hx hy dL_isStep_463 rfl (lv_at hl 3 rfl) ?_
        refine zb hT hI (xVb F hT hI hl (kX5_removeLast l E2 v46 (X := (addS (addS Y (3 - 1, 2 * i + 1, 2 * j + 1, 0)) (5, 2 * n, 0, 0))) hC48 hX31 ) M_L_21 (rX5b F hT hI) rfl ⟨Nat.le_of_ble_eq_true rfl, Nat.le_of_ble_eq_true rfl⟩ ⟨Nat.zero_le _, Nat.zero_le _⟩ rfl (Nat.le_of_ble_eq_true rfl) dL_isStep_464) (fun r56 v57 H locs hI hp55 => ?_)
        obtain ⟨hq58, hC59, hX60⟩ := t_removeLast (m := 2 * n + 1) hp55 hX31 (by first | omega | (simp only [addS_n, dropS_n]; omega))
        refine tI (show _ = nI (2 * n + 1) from hq58) ?_
        refine lv_iconst (v := nI 2) hx hy dL_isStep_467 (by decide) ?_
        refine lv_iload hx hy dL_isStep_468 (lv_at hl 6 rfl) ?_
        refine lv_imul hx hy dL_isStep_470 ?_
        refine tI (pk_mul (2) (n)) ?_
        refine lv_iconst (v := nI 1) hx hy dL_isStep_471 (by decide) ?_
        refine lv_iadd hx hy dL_isStep_472 ?_
        refine tI (nI_add (2 * n) (1)) ?_
        refine lv_icmp_ne (tgt := 529) hx hy dL_isStep_473 (by decide) (fun q => absurd rfl q) (fun h61 => ?_)
        refine lv_aload_n hx hy dL_isStep_476 rfl (lv_at hl 3 rfl) ?_
        refine zb hT hI (xVb F hT hI hl (kX5_removeLast l E2 v57 (X := (dropS (addS (addS Y (3 - 1, 2 * i + 1, 2 * j + 1, 0)) (5, 2 * n, 0, 0)))) hC59 hX60 ) M_L_21 (rX5b F hT hI) rfl ⟨Nat.le_of_ble_eq_true rfl, Nat.le_of_ble_eq_true rfl⟩ ⟨Nat.zero_le _, Nat.zero_le _⟩ rfl (Nat.le_of_ble_eq_true rfl) dL_isStep_477) (fun r63 v64 H locs hI hp62 => ?_)
        obtain ⟨hq65, hC66, hX67⟩ := t_removeLast (m := 2 * n) hp62 hX60 (by first | omega | (simp only [addS_n, dropS_n]; omega))
        refine tI (show _ = nI (2 * n) from hq65) ?_
        refine lv_iconst (v := nI 2) hx hy dL_isStep_480 (by decide) ?_
        refine lv_iload hx hy dL_isStep_481 (lv_at hl 6 rfl) ?_
        refine lv_imul hx hy dL_isStep_483 ?_
        refine tI (pk_mul (2) (n)) ?_
        refine lv_icmp_ne (tgt := 529) hx hy dL_isStep_484 (by decide) (fun q => absurd rfl q) (fun h68 => ?_)
        refine lv_aload_n hx hy dL_isStep_487 rfl (lv_at hl 3 rfl) ?_
        refine lv_iload hx hy dL_isStep_488 (lv_at hl 1 rfl) ?_
        refine lv_iconst (v := nI 2) hx hy dL_isStep_490 (by decide) ?_
        refine lv_iload hx hy dL_isStep_491 (lv_at hl 8 rfl) ?_
        refine lv_imul hx hy dL_isStep_493 ?_
        refine tI (pk_mul (2) (i)) ?_
        refine lv_iconst (v := nI 2) hx hy dL_isStep_494 (by decide) ?_
        refine lv_iload hx hy dL_isStep_495 (lv_at hl 9 rfl) ?_
        refine lv_imul hx hy dL_isStep_497 ?_
        refine tI (pk_mul (2) (j)) ?_
        refine zb hT hI (xVb F hT hI hl (kX5_gate l E2 v64 (X := (dropS (dropS (addS (addS Y (3 - 1, 2 * i + 1, 2 * j + 1, 0)) (5, 2 * n, 0, 0))))) hC66 hX67 (nI 1) (nI (2 * i)) (nI (2 * j))) M_L_31 (rX5b F hT hI) rfl ⟨Nat.le_of_ble_eq_true rfl, Nat.le_of_ble_eq_true rfl⟩ ⟨Nat.zero_le _, Nat.zero_le _⟩ rfl (Nat.le_of_ble_eq_true rfl) dL_isStep_498) (fun r70 v71 H locs hI hp69 => ?_)
        obtain ⟨hq72, hC73, hX74⟩ := t_gate (m := 2 * n) hp69 hX67 (by first | omega | (simp only [addS_n, dropS_n]; omega)) (by omega) (by omega) (by omega) (by omega) (by omega)
        refine tI (show _ = nI (2 * n) from hq72) ?_
        refine lv_iconst (v := nI 2) hx hy dL_isStep_501 (by decide) ?_
        refine lv_iload hx hy dL_isStep_502 (lv_at hl 6 rfl) ?_
        refine lv_imul hx hy dL_isStep_504 ?_
        refine tI (pk_mul (2) (n)) ?_
        refine lv_icmp_ne (tgt := 529) hx hy dL_isStep_505 (by decide) (fun q => absurd rfl q) (fun h75 => ?_)
        refine lv_aload_n hx hy dL_isStep_508 rfl (lv_at hl 3 rfl) ?_
        refine lv_iconst (v := nI 2) hx hy dL_isStep_509 (by decide) ?_
        refine lv_iload hx hy dL_isStep_510 (lv_at hl 6 rfl) ?_
        refine lv_imul hx hy dL_isStep_512 ?_
        refine tI (pk_mul (2) (n)) ?_
        refine zb hT hI (xVb F hT hI hl (kX5_turn l E2 v71 (X := (addS (dropS (dropS (addS (addS Y (3 - 1, 2 * i + 1, 2 * j + 1, 0)) (5, 2 * n, 0, 0)))) (1, 2 * i, 2 * j, 0))) hC73 hX74 (nI (2 * n))) M_L_28 (rX5b F hT hI) rfl ⟨Nat.le_of_ble_eq_true rfl, Nat.le_of_ble_eq_true rfl⟩ ⟨Nat.zero_le _, Nat.zero_le _⟩ rfl (Nat.le_of_ble_eq_true rfl) dL_isStep_513) (fun r77 v78 H locs hI hp76 => ?_)
        obtain ⟨hq79, hC80, hX81⟩ := t_turn (m := 2 * n + 1) hp76 hX74 (by first | omega | (simp only [addS_n, dropS_n]; omega)) (by omega) (by omega)
        refine tI (show _ = nI (2 * n + 1) from hq79) ?_
        refine lv_iconst (v := nI 2) hx hy dL_isStep_516 (by decide) ?_
        refine lv_iload hx hy dL_isStep_517 (lv_at hl 6 rfl) ?_
        refine lv_imul hx hy dL_isStep_519 ?_
        refine tI (pk_mul (2) (n)) ?_
        refine lv_iconst (v := nI 1) hx hy dL_isStep_520 (by decide) ?_
        refine lv_iadd hx hy dL_isStep_521 ?_
        refine tI (nI_add (2 * n) (1)) ?_
        refine lv_icmp_ne (tgt := 529) hx hy dL_isStep_522 (by decide) (fun q => absurd rfl q) (fun h82 => ?_)
        refine lv_iconst (v := nI 1) hx hy dL_isStep_525 (by decide) ?_
        refine lv_goto (tgt := 530) hx hy dL_isStep_526 (by decide) ?_
        exact rZ2 hQ F rfl hI dL_isStep_530 ⟨rfl, _, _, (hR.back hX67).add9 hn (by omega) (pr_g12 (by decide) _ _ _ _) hX17 hX81, hC53, hC80⟩
      · have hl : lv_has ls 13 [(10, .int (nI 2)), (0, .ref (eA E1 0)), (1, .ref (eA E2 0)), (2, .int (x)), (3, .int (y)), (4, .int (nI n)), (5, .int (z)), (6, .int (nI i)), (7, .int (nI j)), (8, .int (nI k))] := hl
        refine lv_iload hx hy dL_isStep_281 (lv_at hl 0 rfl) ?_
        refine lv_iconst (v := nI 3) hx hy dL_isStep_283 (by decide) ?_
        refine lv_icmp_ne (tgt := 348) hx hy dL_isStep_284 (by decide) (fun _ => ?_) (fun q => absurd q (by decide))
        refine lv_aload_n hx hy dL_isStep_348 rfl (lv_at hl 1 rfl) ?_
        refine lv_iload hx hy dL_isStep_349 (lv_at hl 0 rfl) ?_
        refine lv_iload hx hy dL_isStep_351 (lv_at hl 7 rfl) ?_
        refine lv_iload hx hy dL_isStep_353 (lv_at hl 8 rfl) ?_
        refine za hT hI (xVa F hT hI hl (kX5_gate l E1 u (X := X) hCa hXa (nI 2) (nI i) (nI j)) M_L_31 (rX5a F hT hI) rfl ⟨Nat.le_of_ble_eq_true rfl, Nat.le_of_ble_eq_true rfl⟩ ⟨Nat.zero_le _, Nat.zero_le _⟩ rfl (Nat.le_of_ble_eq_true rfl) dL_isStep_355) (fun r84 v85 H locs hI hp83 => ?_)
        obtain ⟨hq86, hC87, hX88⟩ := t_gate (m := n) hp83 hXa (by first | omega | (simp only [addS_n, dropS_n]; omega)) (by omega) (by omega) (by omega) (by omega) (by omega)
        refine tI (show _ = nI n from hq86) ?_
        refine lv_iload hx hy dL_isStep_358 (lv_at hl 5 rfl) ?_
        refine lv_icmp_ne (tgt := 455) hx hy dL_isStep_360 (by decide) (fun q => absurd rfl q) (fun h89 => ?_)
        refine lv_aload_n hx hy dL_isStep_363 rfl (lv_at hl 2 rfl) ?_
        refine lv_iconst (v := nI 3) hx hy dL_isStep_364 (by decide) ?_
        refine lv_iload hx hy dL_isStep_365 (lv_at hl 0 rfl) ?_
        refine lv_isub hx hy dL_isStep_367 ?_
        refine tI (pk_sub (a := 3) (b := 2) (by omega)) ?_
        refine lv_iconst (v := nI 2) hx hy dL_isStep_368 (by decide) ?_
        refine lv_iload hx hy dL_isStep_369 (lv_at hl 7 rfl) ?_
        refine lv_imul hx hy dL_isStep_371 ?_
        refine tI (pk_mul (2) (i)) ?_
        refine lv_iconst (v := nI 1) hx hy dL_isStep_372 (by decide) ?_
        refine lv_iadd hx hy dL_isStep_373 ?_
        refine tI (nI_add (2 * i) (1)) ?_
        refine lv_iconst (v := nI 2) hx hy dL_isStep_374 (by decide) ?_
        refine lv_iload hx hy dL_isStep_375 (lv_at hl 8 rfl) ?_
        refine lv_imul hx hy dL_isStep_377 ?_
        refine tI (pk_mul (2) (j)) ?_
        refine lv_iconst (v := nI 1) hx hy dL_isStep_378 (by decide) ?_
        refine lv_iadd hx hy dL_isStep_379 ?_
        refine tI (nI_add (2 * j) (1)) ?_
        refine zb hT hI (xVb F hT hI hl (kX5_gate l E2 w (X := Y) hCb hXb (nI (3 - 2)) (nI (2 * i + 1)) (nI (2 * j + 1))) M_L_31 (rX5b F hT hI) rfl ⟨Nat.le_of_ble_eq_true rfl, Nat.le_of_ble_eq_true rfl⟩ ⟨Nat.zero_le _, Nat.zero_le _⟩ rfl (Nat.le_of_ble_eq_true rfl) dL_isStep_380) (fun r91 v92 H locs hI hp90 => ?_)
        obtain ⟨hq93, hC94, hX95⟩ := t_gate (m := 2 * n) hp90 hXb (by first | omega | (simp only [addS_n, dropS_n]; omega)) (by omega) (by omega) (by omega) (by omega) (by omega)
        refine tI (show _ = nI (2 * n) from hq93) ?_
        refine lv_iconst (v := nI 2) hx hy dL_isStep_383 (by decide) ?_
        refine lv_iload hx hy dL_isStep_384 (lv_at hl 5 rfl) ?_
        refine lv_imul hx hy dL_isStep_386 ?_
        refine tI (pk_mul (2) (n)) ?_
        refine lv_icmp_ne (tgt := 455) hx hy dL_isStep_387 (by decide) (fun q => absurd rfl q) (fun h96 => ?_)
        refine lv_aload_n hx hy dL_isStep_390 rfl (lv_at hl 2 rfl) ?_
        refine lv_iconst (v := nI 2) hx hy dL_isStep_391 (by decide) ?_
        refine lv_iload hx hy dL_isStep_392 (lv_at hl 5 rfl) ?_
        refine lv_imul hx hy dL_isStep_394 ?_
        refine tI (pk_mul (2) (n)) ?_
        refine zb hT hI (xVb F hT hI hl (kX5_turn l E2 v92 (X := (addS Y (3 - 2, 2 * i + 1, 2 * j + 1, 0))) hC94 hX95 (nI (2 * n))) M_L_28 (rX5b F hT hI) rfl ⟨Nat.le_of_ble_eq_true rfl, Nat.le_of_ble_eq_true rfl⟩ ⟨Nat.zero_le _, Nat.zero_le _⟩ rfl (Nat.le_of_ble_eq_true rfl) dL_isStep_395) (fun r98 v99 H locs hI hp97 => ?_)
        obtain ⟨hq100, hC101, hX102⟩ := t_turn (m := 2 * n + 1) hp97 hX95 (by first | omega | (simp only [addS_n, dropS_n]; omega)) (by omega) (by omega)
        refine tI (show _ = nI (2 * n + 1) from hq100) ?_
        refine lv_iconst (v := nI 2) hx hy dL_isStep_398 (by decide) ?_
        refine lv_iload hx hy dL_isStep_399 (lv_at hl 5 rfl) ?_
        refine lv_imul hx hy dL_isStep_401 ?_
        refine tI (pk_mul (2) (n)) ?_
        refine lv_iconst (v := nI 1) hx hy dL_isStep_402 (by decide) ?_
        refine lv_iadd hx hy dL_isStep_403 ?_
        refine tI (nI_add (2 * n) (1)) ?_
        refine lv_icmp_ne (tgt := 455) hx hy dL_isStep_404 (by decide) (fun q => absurd rfl q) (fun h103 => ?_)
        refine lv_aload_n hx hy dL_isStep_407 rfl (lv_at hl 2 rfl) ?_
        refine lv_iconst (v := nI 2) hx hy dL_isStep_408 (by decide) ?_
        refine lv_iload hx hy dL_isStep_409 (lv_at hl 5 rfl) ?_
        refine lv_imul hx hy dL_isStep_411 ?_
        refine tI (pk_mul (2) (n)) ?_
        refine lv_iconst (v := nI 1) hx hy dL_isStep_412 (by decide) ?_
        refine lv_iadd hx hy dL_isStep_413 ?_
        refine tI (nI_add (2 * n) (1)) ?_
        refine lv_iconst (v := nI 4) hx hy dL_isStep_414 (by decide) ?_
        refine zb hT hI (xVb F hT hI hl (kX5_line l E2 v99 (X := (addS (addS Y (3 - 2, 2 * i + 1, 2 * j + 1, 0)) (5, 2 * n, 0, 0))) hC101 hX102 (nI (2 * n + 1)) (nI 4)) M_L_36 (rX5b F hT hI) rfl ⟨Nat.le_of_ble_eq_true rfl, Nat.le_of_ble_eq_true rfl⟩ ⟨Nat.zero_le _, Nat.zero_le _⟩ rfl (Nat.le_of_ble_eq_true rfl) dL_isStep_415) (fun r105 v106 H locs hI hp104 => ?_)
        obtain ⟨hq107, hC108⟩ := q_line hp104 hX102 (by simp only [addS_n]; omega) (by decide)
        refine tI (show _ = nI (cnt (addS (addS Y (3 - 2, 2 * i + 1, 2 * j + 1, 0)) (5, 2 * n, 0, 0)).1.2.2 (2 * n + 1) (addS (addS Y (3 - 2, 2 * i + 1, 2 * j + 1, 0)) (5, 2 * n, 0, 0)).1.2.1) from hq107) ?_
        refine lv_aload_n hx hy dL_isStep_418 rfl (lv_at hl 1 rfl) ?_
        refine lv_iload hx hy dL_isStep_419 (lv_at hl 5 rfl) ?_
        refine lv_iconst (v := nI 4) hx hy dL_isStep_421 (by decide) ?_
        refine za hT hI (xVa F hT hI hl (kX5_line l E1 v85 (X := (addS X (2, i, j, 0))) hC87 hX88 (nI n) (nI 4)) M_L_36 (rX5a F hT hI) rfl ⟨Nat.le_of_ble_eq_true rfl, Nat.le_of_ble_eq_true rfl⟩ ⟨Nat.zero_le _, Nat.zero_le _⟩ rfl (Nat.le_of_ble_eq_true rfl) dL_isStep_422) (fun r110 v111 H locs hI hp109 => ?_)
        obtain ⟨hq112, hC113⟩ := q_line hp109 hX88 (by simp only [addS_n]; omega) (by decide)
        refine tI (show _ = nI (cnt (addS X (2, i, j, 0)).1.2.2 n (addS X (2, i, j, 0)).1.2.1) from hq112) ?_
        have hg := hR.gate9 hn (by omega) (k := 2) (i := i) (j := j) (by decide) (by omega) (by omega) hX88 hX102
        refine lv_icmp_ne (tgt := 455) hx hy dL_isStep_425 (by decide) (fun q => absurd (congrArg nI (show cnt (addS (addS Y (3 - 2, 2 * i + 1, 2 * j + 1, 0)) (5, 2 * n, 0, 0)).1.2.2 (2 * n + 1) (addS (addS Y (3 - 2, 2 * i + 1, 2 * j + 1, 0)) (5, 2 * n, 0, 0)).1.2.1 = cnt (addS X (2, i, j, 0)).1.2.2 n (addS X (2, i, j, 0)).1.2.1 from by rw [addS_len, addS_len, addS_len, hYl]; exact cnt_same hg.2 _)) q) (fun h114 => ?_)
        refine lv_aload_n hx hy dL_isStep_428 rfl (lv_at hl 2 rfl) ?_
        refine lv_iconst (v := nI 2) hx hy dL_isStep_429 (by decide) ?_
        refine lv_iload hx hy dL_isStep_430 (lv_at hl 5 rfl) ?_
        refine lv_imul hx hy dL_isStep_432 ?_
        refine tI (pk_mul (2) (n)) ?_
        refine lv_bipush (v := nI 33) hx hy dL_isStep_433 (by decide) ?_
        refine zb hT hI (xVb F hT hI hl (kX5_bit l E2 v106 (X := (addS (addS Y (3 - 2, 2 * i + 1, 2 * j + 1, 0)) (5, 2 * n, 0, 0))) hC108 hX102 (nI (2 * n)) (nI 33)) M_L_39 (rX5b F hT hI) rfl ⟨Nat.le_of_ble_eq_true rfl, Nat.le_of_ble_eq_true rfl⟩ ⟨Nat.zero_le _, Nat.zero_le _⟩ rfl (Nat.le_of_ble_eq_true rfl) dL_isStep_435) (fun r116 v117 H locs hI hp115 => ?_)
        obtain ⟨hq118, hC119⟩ := q_bit hp115 hX102 (by simp only [addS_n]; omega) (by omega)
        refine tI (show _ = nI (bN (bt (addS (addS Y (3 - 2, 2 * i + 1, 2 * j + 1, 0)) (5, 2 * n, 0, 0)).1.2.2 (2 * n) 33)) from hq118) ?_
        refine lv_iconst (v := nI 1) hx hy dL_isStep_438 (by decide) ?_
        refine lv_aload_n hx hy dL_isStep_439 rfl (lv_at hl 1 rfl) ?_
        refine lv_iload hx hy dL_isStep_440 (lv_at hl 5 rfl) ?_
        refine lv_bipush (v := nI 33) hx hy dL_isStep_442 (by decide) ?_
        refine za hT hI (xVa F hT hI hl (kX5_bit l E1 v111 (X := (addS X (2, i, j, 0))) hC113 hX88 (nI n) (nI 33)) M_L_39 (rX5a F hT hI) rfl ⟨Nat.le_of_ble_eq_true rfl, Nat.le_of_ble_eq_true rfl⟩ ⟨Nat.zero_le _, Nat.zero_le _⟩ rfl (Nat.le_of_ble_eq_true rfl) dL_isStep_444) (fun r121 v122 H locs hI hp120 => ?_)
        obtain ⟨hq123, hC124⟩ := q_bit hp120 hX88 (by simp only [addS_n]; omega) (by omega)
        refine tI (show _ = nI (bN (bt (addS X (2, i, j, 0)).1.2.2 n 33)) from hq123) ?_
        refine lv_isub hx hy dL_isStep_447 ?_
        refine tI (pk_sub (a := 1) (b := bN (bt (addS X (2, i, j, 0)).1.2.2 n 33)) (bN_le _)) ?_
        refine lv_icmp_ne (tgt := 455) hx hy dL_isStep_448 (by decide) (fun q => absurd (congrArg nI ((congrArg bN (hg.1 33)).trans (bN_not _))) q) (fun h125 => ?_)
        refine lv_iconst (v := nI 1) hx hy dL_isStep_451 (by decide) ?_
        refine lv_goto (tgt := 456) hx hy dL_isStep_452 (by decide) ?_
        refine lv_istore (lv' := [(11, .int (nI 1)), (10, .int (nI 2)), (0, .ref (eA E1 0)), (1, .ref (eA E2 0)), (2, .int (x)), (3, .int (y)), (4, .int (nI n)), (5, .int (z)), (6, .int (nI i)), (7, .int (nI j)), (8, .int (nI k))]) hx hy dL_isStep_456 hl (by decide) rfl (fun ls hl => ?_)
        refine lv_iload hx hy dL_isStep_458 (lv_at hl 0 rfl) ?_
        refine lv_if_eq (tgt := 529) hx hy dL_isStep_460 (by decide) (fun q => absurd q (by decide)) (fun _ => ?_)
        refine lv_aload_n hx hy dL_isStep_463 rfl (lv_at hl 3 rfl) ?_
        refine zb hT hI (xVb F hT hI hl (kX5_removeLast l E2 v117 (X := (addS (addS Y (3 - 2, 2 * i + 1, 2 * j + 1, 0)) (5, 2 * n, 0, 0))) hC119 hX102 ) M_L_21 (rX5b F hT hI) rfl ⟨Nat.le_of_ble_eq_true rfl, Nat.le_of_ble_eq_true rfl⟩ ⟨Nat.zero_le _, Nat.zero_le _⟩ rfl (Nat.le_of_ble_eq_true rfl) dL_isStep_464) (fun r127 v128 H locs hI hp126 => ?_)
        obtain ⟨hq129, hC130, hX131⟩ := t_removeLast (m := 2 * n + 1) hp126 hX102 (by first | omega | (simp only [addS_n, dropS_n]; omega))
        refine tI (show _ = nI (2 * n + 1) from hq129) ?_
        refine lv_iconst (v := nI 2) hx hy dL_isStep_467 (by decide) ?_
        refine lv_iload hx hy dL_isStep_468 (lv_at hl 6 rfl) ?_
        refine lv_imul hx hy dL_isStep_470 ?_
        refine tI (pk_mul (2) (n)) ?_
        refine lv_iconst (v := nI 1) hx hy dL_isStep_471 (by decide) ?_
        refine lv_iadd hx hy dL_isStep_472 ?_
        refine tI (nI_add (2 * n) (1)) ?_
        refine lv_icmp_ne (tgt := 529) hx hy dL_isStep_473 (by decide) (fun q => absurd rfl q) (fun h132 => ?_)
        refine lv_aload_n hx hy dL_isStep_476 rfl (lv_at hl 3 rfl) ?_
        refine zb hT hI (xVb F hT hI hl (kX5_removeLast l E2 v128 (X := (dropS (addS (addS Y (3 - 2, 2 * i + 1, 2 * j + 1, 0)) (5, 2 * n, 0, 0)))) hC130 hX131 ) M_L_21 (rX5b F hT hI) rfl ⟨Nat.le_of_ble_eq_true rfl, Nat.le_of_ble_eq_true rfl⟩ ⟨Nat.zero_le _, Nat.zero_le _⟩ rfl (Nat.le_of_ble_eq_true rfl) dL_isStep_477) (fun r134 v135 H locs hI hp133 => ?_)
        obtain ⟨hq136, hC137, hX138⟩ := t_removeLast (m := 2 * n) hp133 hX131 (by first | omega | (simp only [addS_n, dropS_n]; omega))
        refine tI (show _ = nI (2 * n) from hq136) ?_
        refine lv_iconst (v := nI 2) hx hy dL_isStep_480 (by decide) ?_
        refine lv_iload hx hy dL_isStep_481 (lv_at hl 6 rfl) ?_
        refine lv_imul hx hy dL_isStep_483 ?_
        refine tI (pk_mul (2) (n)) ?_
        refine lv_icmp_ne (tgt := 529) hx hy dL_isStep_484 (by decide) (fun q => absurd rfl q) (fun h139 => ?_)
        refine lv_aload_n hx hy dL_isStep_487 rfl (lv_at hl 3 rfl) ?_
        refine lv_iload hx hy dL_isStep_488 (lv_at hl 1 rfl) ?_
        refine lv_iconst (v := nI 2) hx hy dL_isStep_490 (by decide) ?_
        refine lv_iload hx hy dL_isStep_491 (lv_at hl 8 rfl) ?_
        refine lv_imul hx hy dL_isStep_493 ?_
        refine tI (pk_mul (2) (i)) ?_
        refine lv_iconst (v := nI 2) hx hy dL_isStep_494 (by decide) ?_
        refine lv_iload hx hy dL_isStep_495 (lv_at hl 9 rfl) ?_
        refine lv_imul hx hy dL_isStep_497 ?_
        refine tI (pk_mul (2) (j)) ?_
        refine zb hT hI (xVb F hT hI hl (kX5_gate l E2 v135 (X := (dropS (dropS (addS (addS Y (3 - 2, 2 * i + 1, 2 * j + 1, 0)) (5, 2 * n, 0, 0))))) hC137 hX138 (nI 2) (nI (2 * i)) (nI (2 * j))) M_L_31 (rX5b F hT hI) rfl ⟨Nat.le_of_ble_eq_true rfl, Nat.le_of_ble_eq_true rfl⟩ ⟨Nat.zero_le _, Nat.zero_le _⟩ rfl (Nat.le_of_ble_eq_true rfl) dL_isStep_498) (fun r141 v142 H locs hI hp140 => ?_)
        obtain ⟨hq143, hC144, hX145⟩ := t_gate (m := 2 * n) hp140 hX138 (by first | omega | (simp only [addS_n, dropS_n]; omega)) (by omega) (by omega) (by omega) (by omega) (by omega)
        refine tI (show _ = nI (2 * n) from hq143) ?_
        refine lv_iconst (v := nI 2) hx hy dL_isStep_501 (by decide) ?_
        refine lv_iload hx hy dL_isStep_502 (lv_at hl 6 rfl) ?_
        refine lv_imul hx hy dL_isStep_504 ?_
        refine tI (pk_mul (2) (n)) ?_
        refine lv_icmp_ne (tgt := 529) hx hy dL_isStep_505 (by decide) (fun q => absurd rfl q) (fun h146 => ?_)
        refine lv_aload_n hx hy dL_isStep_508 rfl (lv_at hl 3 rfl) ?_
        refine lv_iconst (v := nI 2) hx hy dL_isStep_509 (by decide) ?_
        refine lv_iload hx hy dL_isStep_510 (lv_at hl 6 rfl) ?_
        refine lv_imul hx hy dL_isStep_512 ?_
        refine tI (pk_mul (2) (n)) ?_
        refine zb hT hI (xVb F hT hI hl (kX5_turn l E2 v142 (X := (addS (dropS (dropS (addS (addS Y (3 - 2, 2 * i + 1, 2 * j + 1, 0)) (5, 2 * n, 0, 0)))) (2, 2 * i, 2 * j, 0))) hC144 hX145 (nI (2 * n))) M_L_28 (rX5b F hT hI) rfl ⟨Nat.le_of_ble_eq_true rfl, Nat.le_of_ble_eq_true rfl⟩ ⟨Nat.zero_le _, Nat.zero_le _⟩ rfl (Nat.le_of_ble_eq_true rfl) dL_isStep_513) (fun r148 v149 H locs hI hp147 => ?_)
        obtain ⟨hq150, hC151, hX152⟩ := t_turn (m := 2 * n + 1) hp147 hX145 (by first | omega | (simp only [addS_n, dropS_n]; omega)) (by omega) (by omega)
        refine tI (show _ = nI (2 * n + 1) from hq150) ?_
        refine lv_iconst (v := nI 2) hx hy dL_isStep_516 (by decide) ?_
        refine lv_iload hx hy dL_isStep_517 (lv_at hl 6 rfl) ?_
        refine lv_imul hx hy dL_isStep_519 ?_
        refine tI (pk_mul (2) (n)) ?_
        refine lv_iconst (v := nI 1) hx hy dL_isStep_520 (by decide) ?_
        refine lv_iadd hx hy dL_isStep_521 ?_
        refine tI (nI_add (2 * n) (1)) ?_
        refine lv_icmp_ne (tgt := 529) hx hy dL_isStep_522 (by decide) (fun q => absurd rfl q) (fun h153 => ?_)
        refine lv_iconst (v := nI 1) hx hy dL_isStep_525 (by decide) ?_
        refine lv_goto (tgt := 530) hx hy dL_isStep_526 (by decide) ?_
        exact rZ2 hQ F rfl hI dL_isStep_530 ⟨rfl, _, _, (hR.back hX138).add9 hn (by omega) (pr_g12 (by decide) _ _ _ _) hX88 hX152, hC124, hC151⟩
      · have hl : lv_has ls 13 [(10, .int (nI 3)), (0, .ref (eA E1 0)), (1, .ref (eA E2 0)), (2, .int (x)), (3, .int (y)), (4, .int (nI n)), (5, .int (z)), (6, .int (nI i)), (7, .int (nI j)), (8, .int (nI k))] := hl
        refine lv_iload hx hy dL_isStep_281 (lv_at hl 0 rfl) ?_
        refine lv_iconst (v := nI 3) hx hy dL_isStep_283 (by decide) ?_
        refine lv_icmp_ne (tgt := 348) hx hy dL_isStep_284 (by decide) (fun q => absurd q (by decide)) (fun _ => ?_)
        refine lv_aload_n hx hy dL_isStep_287 rfl (lv_at hl 1 rfl) ?_
        refine lv_iconst (v := nI 3) hx hy dL_isStep_288 (by decide) ?_
        refine lv_iload hx hy dL_isStep_289 (lv_at hl 7 rfl) ?_
        refine lv_iload hx hy dL_isStep_291 (lv_at hl 8 rfl) ?_
        refine za hT hI (xVa F hT hI hl (kX5_gate l E1 u (X := X) hCa hXa (nI 3) (nI i) (nI j)) M_L_31 (rX5a F hT hI) rfl ⟨Nat.le_of_ble_eq_true rfl, Nat.le_of_ble_eq_true rfl⟩ ⟨Nat.zero_le _, Nat.zero_le _⟩ rfl (Nat.le_of_ble_eq_true rfl) dL_isStep_293) (fun r155 v156 H locs hI hp154 => ?_)
        obtain ⟨hq157, hC158, hX159⟩ := t_gate (m := n) hp154 hXa (by first | omega | (simp only [addS_n, dropS_n]; omega)) (by omega) (by omega) (by omega) (by omega) (by omega)
        refine tI (show _ = nI n from hq157) ?_
        refine lv_iload hx hy dL_isStep_296 (lv_at hl 5 rfl) ?_
        refine lv_icmp_ne (tgt := 346) hx hy dL_isStep_298 (by decide) (fun q => absurd rfl q) (fun h160 => ?_)
        refine lv_aload_n hx hy dL_isStep_301 rfl (lv_at hl 2 rfl) ?_
        refine lv_iconst (v := nI 3) hx hy dL_isStep_302 (by decide) ?_
        refine lv_iconst (v := nI 2) hx hy dL_isStep_303 (by decide) ?_
        refine lv_iload hx hy dL_isStep_304 (lv_at hl 7 rfl) ?_
        refine lv_imul hx hy dL_isStep_306 ?_
        refine tI (pk_mul (2) (i)) ?_
        refine lv_iconst (v := nI 1) hx hy dL_isStep_307 (by decide) ?_
        refine lv_iadd hx hy dL_isStep_308 ?_
        refine tI (nI_add (2 * i) (1)) ?_
        refine lv_iconst (v := nI 2) hx hy dL_isStep_309 (by decide) ?_
        refine lv_iload hx hy dL_isStep_310 (lv_at hl 8 rfl) ?_
        refine lv_imul hx hy dL_isStep_312 ?_
        refine tI (pk_mul (2) (j)) ?_
        refine lv_iconst (v := nI 1) hx hy dL_isStep_313 (by decide) ?_
        refine lv_iadd hx hy dL_isStep_314 ?_
        refine tI (nI_add (2 * j) (1)) ?_
        refine zb hT hI (xVb F hT hI hl (kX5_gate l E2 w (X := Y) hCb hXb (nI 3) (nI (2 * i + 1)) (nI (2 * j + 1))) M_L_31 (rX5b F hT hI) rfl ⟨Nat.le_of_ble_eq_true rfl, Nat.le_of_ble_eq_true rfl⟩ ⟨Nat.zero_le _, Nat.zero_le _⟩ rfl (Nat.le_of_ble_eq_true rfl) dL_isStep_315) (fun r162 v163 H locs hI hp161 => ?_)
        obtain ⟨hq164, hC165, hX166⟩ := t_gate (m := 2 * n) hp161 hXb (by first | omega | (simp only [addS_n, dropS_n]; omega)) (by omega) (by omega) (by omega) (by omega) (by omega)
        refine tI (show _ = nI (2 * n) from hq164) ?_
        refine lv_iconst (v := nI 2) hx hy dL_isStep_318 (by decide) ?_
        refine lv_iload hx hy dL_isStep_319 (lv_at hl 5 rfl) ?_
        refine lv_imul hx hy dL_isStep_321 ?_
        refine tI (pk_mul (2) (n)) ?_
        refine lv_icmp_ne (tgt := 346) hx hy dL_isStep_322 (by decide) (fun q => absurd rfl q) (fun h167 => ?_)
        refine lv_aload_n hx hy dL_isStep_325 rfl (lv_at hl 2 rfl) ?_
        refine lv_iconst (v := nI 2) hx hy dL_isStep_326 (by decide) ?_
        refine lv_iload hx hy dL_isStep_327 (lv_at hl 5 rfl) ?_
        refine lv_imul hx hy dL_isStep_329 ?_
        refine tI (pk_mul (2) (n)) ?_
        refine zb hT hI (xVb F hT hI hl (kX5_turn l E2 v163 (X := (addS Y (3, 2 * i + 1, 2 * j + 1, 0))) hC165 hX166 (nI (2 * n))) M_L_28 (rX5b F hT hI) rfl ⟨Nat.le_of_ble_eq_true rfl, Nat.le_of_ble_eq_true rfl⟩ ⟨Nat.zero_le _, Nat.zero_le _⟩ rfl (Nat.le_of_ble_eq_true rfl) dL_isStep_330) (fun r169 v170 H locs hI hp168 => ?_)
        obtain ⟨hq171, hC172, hX173⟩ := t_turn (m := 2 * n + 1) hp168 hX166 (by first | omega | (simp only [addS_n, dropS_n]; omega)) (by omega) (by omega)
        refine tI (show _ = nI (2 * n + 1) from hq171) ?_
        refine lv_iconst (v := nI 2) hx hy dL_isStep_333 (by decide) ?_
        refine lv_iload hx hy dL_isStep_334 (lv_at hl 5 rfl) ?_
        refine lv_imul hx hy dL_isStep_336 ?_
        refine tI (pk_mul (2) (n)) ?_
        refine lv_iconst (v := nI 1) hx hy dL_isStep_337 (by decide) ?_
        refine lv_iadd hx hy dL_isStep_338 ?_
        refine tI (nI_add (2 * n) (1)) ?_
        refine lv_icmp_ne (tgt := 346) hx hy dL_isStep_339 (by decide) (fun q => absurd rfl q) (fun h174 => ?_)
        refine lv_iconst (v := nI 1) hx hy dL_isStep_342 (by decide) ?_
        refine lv_goto (tgt := 347) hx hy dL_isStep_343 (by decide) ?_
        exact rZ2 hQ F rfl hI dL_isStep_347 ⟨rfl, _, _, hR.add9 hn (by omega) (pr_g3 _ _ _ _) hX159 hX173, hC158, hC172⟩
    · have h11 : j = n := (nI_eq (a := j) (b := n) (by omega) (by omega)).mp h11
      refine lv_aload_n hx hy dL_isStep_260 rfl (lv_at hl 1 rfl) ?_
      refine lv_iload hx hy dL_isStep_261 (lv_at hl 0 rfl) ?_
      refine lv_iload hx hy dL_isStep_263 (lv_at hl 7 rfl) ?_
      refine lv_iload hx hy dL_isStep_265 (lv_at hl 8 rfl) ?_
      refine za hT hI (xVa F hT hI hl (kX5_gate l E1 u (X := X) hCa hXa (nI (1 + kd)) (nI i) (nI j)) M_L_31 (rX5a F hT hI) rfl ⟨Nat.le_of_ble_eq_true rfl, Nat.le_of_ble_eq_true rfl⟩ ⟨Nat.zero_le _, Nat.zero_le _⟩ rfl (Nat.le_of_ble_eq_true rfl) dL_isStep_267) (fun r176 v177 H locs hI hp175 => ?_)
      obtain ⟨hq178, hC179⟩ := u_gate hp175 hXa (by omega) (by omega) (by omega)
      refine tI (show _ = (-100000001 : Int32) from hq178) ?_
      refine zc F K_L_35 dL_isStep_270 ?_
      refine lv_icmp_ne (tgt := 279) hx hy dL_isStep_272 (by decide) (fun q => absurd q (by decide)) (fun _ => ?_)
      refine lv_iconst (v := nI 1) hx hy dL_isStep_275 (by decide) ?_
      refine lv_goto (tgt := 280) hx hy dL_isStep_276 (by decide) ?_
      exact rZ2 hQ F rfl hI dL_isStep_280 ⟨rfl, X, Y, hR, hC179, hCb⟩
