set_option maxHeartbeats 400000 in
set_option maxRecDepth 100000 in
theorem kJ13_bitCount_95d88 (l : Launch) (E : EV) (u : SS) (x : Int64) : CT l yJ13_bitCount_95d88 cJ13_bitCount_95d88 2 (some .int) (Rm 0 0) [.long (x)] E u (Q_i E (fun r _ => r = nI (popc x)) (fun (_ : Unit) => u)) := by
  refine mstartF RJ13 (by decide +kernel) rfl (Nat.le_of_ble_eq_true rfl) ?_
  intro p e s m args below meth co ls Q hQ F hI hl
  have hx := F.1
  have hy := F.2.1
  have hl : lv_has ls 2 [(0, .long (x))] := hl
  obtain ⟨X, hX, ex⟩ := wb_of x
  subst ex
  have hl : lv_has ls 2 [(0, .long (lN X))] := hl
  refine lv_lload_n hx hy dJ13_bitCount_95d88_0 rfl (lv_at hl 0 rfl) ?_
  refine lv_lload_n hx hy dJ13_bitCount_95d88_1 rfl (lv_at hl 0 rfl) ?_
  refine lv_iconst (v := nI 1) hx hy dJ13_bitCount_95d88_2 (by decide) ?_
  refine lv_lushr (v := (Int64.toUInt64 (lN X) >>> ((Int32.toInt64 (nI 1)).toUInt64 &&& Int64.toUInt64 63)).toInt64) hx hy dJ13_bitCount_95d88_3 rfl ?_
  refine tL (wb_shr (n := X) (k := 1) (by omega) (by decide)) ?_
  refine zcl F K_J13_314 dJ13_bitCount_95d88_4 ?_
  refine tL (show _ = lN 6148914691236517205 from rfl) ?_
  refine lv_land hx hy dJ13_bitCount_95d88_7 ?_
  refine tL (lN_and (X / 2 ^ 1) (6148914691236517205)) ?_
  refine lv_lsub hx hy dJ13_bitCount_95d88_8 ?_
  refine tL (lN_sub (a := X) (b := (X / 2 ^ 1) &&& 6148914691236517205) (Nat.le_trans Nat.and_le_left (Nat.div_le_self _ _))) ?_
  obtain ⟨A1, eA1⟩ : ∃ z9 : Nat, z9 = X - ((X / 2 ^ 1) &&& 6148914691236517205) := ⟨_, rfl⟩
  refine tL (congrArg lN eA1.symm) ?_
  have bA1 : A1 < 2 ^ 64 := by rw [eA1]; exact Nat.lt_of_le_of_lt (Nat.sub_le _ _) hX
  refine lv_lstore_n (lv' := [(0, .long (lN A1))]) hx hy dJ13_bitCount_95d88_9 rfl hl (by decide) rfl (fun ls hl => ?_)
  refine lv_lload_n hx hy dJ13_bitCount_95d88_10 rfl (lv_at hl 0 rfl) ?_
  refine zcl F K_J13_316 dJ13_bitCount_95d88_11 ?_
  refine tL (show _ = lN 3689348814741910323 from rfl) ?_
  refine lv_land hx hy dJ13_bitCount_95d88_14 ?_
  refine tL (lN_and (A1) (3689348814741910323)) ?_
  refine lv_lload_n hx hy dJ13_bitCount_95d88_15 rfl (lv_at hl 0 rfl) ?_
  refine lv_iconst (v := nI 2) hx hy dJ13_bitCount_95d88_16 (by decide) ?_
  refine lv_lushr (v := (Int64.toUInt64 (lN A1) >>> ((Int32.toInt64 (nI 2)).toUInt64 &&& Int64.toUInt64 63)).toInt64) hx hy dJ13_bitCount_95d88_17 rfl ?_
  refine tL (wb_shr (n := A1) (k := 2) (by omega) (by decide)) ?_
  refine zcl F K_J13_316 dJ13_bitCount_95d88_18 ?_
  refine tL (show _ = lN 3689348814741910323 from rfl) ?_
  refine lv_land hx hy dJ13_bitCount_95d88_21 ?_
  refine tL (lN_and (A1 / 2 ^ 2) (3689348814741910323)) ?_
  refine lv_ladd hx hy dJ13_bitCount_95d88_22 ?_
  refine tL (lN_add (A1 &&& 3689348814741910323) ((A1 / 2 ^ 2) &&& 3689348814741910323)) ?_
  obtain ⟨A2, eA2⟩ : ∃ z9 : Nat, z9 = (A1 &&& 3689348814741910323) + ((A1 / 2 ^ 2) &&& 3689348814741910323) := ⟨_, rfl⟩
  refine tL (congrArg lN eA2.symm) ?_
  have bA2 : A2 < 2 ^ 64 := by rw [eA2]; exact Nat.lt_of_le_of_lt (Nat.add_le_add (Nat.and_le_right (m := 3689348814741910323)) (Nat.and_le_right (m := 3689348814741910323))) (by decide)
  refine lv_lstore_n (lv' := [(0, .long (lN A2))]) hx hy dJ13_bitCount_95d88_23 rfl hl (by decide) rfl (fun ls hl => ?_)
  refine lv_lload_n hx hy dJ13_bitCount_95d88_24 rfl (lv_at hl 0 rfl) ?_
  refine lv_lload_n hx hy dJ13_bitCount_95d88_25 rfl (lv_at hl 0 rfl) ?_
  refine lv_iconst (v := nI 4) hx hy dJ13_bitCount_95d88_26 (by decide) ?_
  refine lv_lushr (v := (Int64.toUInt64 (lN A2) >>> ((Int32.toInt64 (nI 4)).toUInt64 &&& Int64.toUInt64 63)).toInt64) hx hy dJ13_bitCount_95d88_27 rfl ?_
  refine tL (wb_shr (n := A2) (k := 4) (by omega) (by decide)) ?_
  refine lv_ladd hx hy dJ13_bitCount_95d88_28 ?_
  refine tL (lN_add (A2) (A2 / 2 ^ 4)) ?_
  refine zcl F K_J13_318 dJ13_bitCount_95d88_29 ?_
  refine tL (show _ = lN 1085102592571150095 from rfl) ?_
  refine lv_land hx hy dJ13_bitCount_95d88_32 ?_
  refine tL (lN_and (A2 + A2 / 2 ^ 4) (1085102592571150095)) ?_
  obtain ⟨A3, eA3⟩ : ∃ z9 : Nat, z9 = (A2 + A2 / 2 ^ 4) &&& 1085102592571150095 := ⟨_, rfl⟩
  refine tL (congrArg lN eA3.symm) ?_
  have bA3 : A3 ≤ 1085102592571150095 := by rw [eA3]; exact Nat.and_le_right
  refine lv_lstore_n (lv' := [(0, .long (lN A3))]) hx hy dJ13_bitCount_95d88_33 rfl hl (by decide) rfl (fun ls hl => ?_)
  refine lv_lload_n hx hy dJ13_bitCount_95d88_34 rfl (lv_at hl 0 rfl) ?_
  refine lv_lload_n hx hy dJ13_bitCount_95d88_35 rfl (lv_at hl 0 rfl) ?_
  refine lv_bipush (v := nI 8) hx hy dJ13_bitCount_95d88_36 (by decide) ?_
  refine lv_lushr (v := (Int64.toUInt64 (lN A3) >>> ((Int32.toInt64 (nI 8)).toUInt64 &&& Int64.toUInt64 63)).toInt64) hx hy dJ13_bitCount_95d88_38 rfl ?_
  refine tL (wb_shr (n := A3) (k := 8) (by omega) (by decide)) ?_
  refine lv_ladd hx hy dJ13_bitCount_95d88_39 ?_
  refine tL (lN_add (A3) (A3 / 2 ^ 8)) ?_
  obtain ⟨A4, eA4⟩ : ∃ z9 : Nat, z9 = A3 + A3 / 2 ^ 8 := ⟨_, rfl⟩
  refine tL (congrArg lN eA4.symm) ?_
  refine lv_lstore_n (lv' := [(0, .long (lN A4))]) hx hy dJ13_bitCount_95d88_40 rfl hl (by decide) rfl (fun ls hl => ?_)
  refine lv_lload_n hx hy dJ13_bitCount_95d88_41 rfl (lv_at hl 0 rfl) ?_
  refine lv_lload_n hx hy dJ13_bitCount_95d88_42 rfl (lv_at hl 0 rfl) ?_
  refine lv_bipush (v := nI 16) hx hy dJ13_bitCount_95d88_43 (by decide) ?_
  refine lv_lushr (v := (Int64.toUInt64 (lN A4) >>> ((Int32.toInt64 (nI 16)).toUInt64 &&& Int64.toUInt64 63)).toInt64) hx hy dJ13_bitCount_95d88_45 rfl ?_
  refine tL (wb_shr (n := A4) (k := 16) (by omega) (by decide)) ?_
  refine lv_ladd hx hy dJ13_bitCount_95d88_46 ?_
  refine tL (lN_add (A4) (A4 / 2 ^ 16)) ?_
  obtain ⟨A5, eA5⟩ : ∃ z9 : Nat, z9 = A4 + A4 / 2 ^ 16 := ⟨_, rfl⟩
  refine tL (congrArg lN eA5.symm) ?_
  refine lv_lstore_n (lv' := [(0, .long (lN A5))]) hx hy dJ13_bitCount_95d88_47 rfl hl (by decide) rfl (fun ls hl => ?_)
  refine lv_lload_n hx hy dJ13_bitCount_95d88_48 rfl (lv_at hl 0 rfl) ?_
  refine lv_lload_n hx hy dJ13_bitCount_95d88_49 rfl (lv_at hl 0 rfl) ?_
  refine lv_bipush (v := nI 32) hx hy dJ13_bitCount_95d88_50 (by decide) ?_
  refine lv_lushr (v := (Int64.toUInt64 (lN A5) >>> ((Int32.toInt64 (nI 32)).toUInt64 &&& Int64.toUInt64 63)).toInt64) hx hy dJ13_bitCount_95d88_52 rfl ?_
  refine tL (wb_shr (n := A5) (k := 32) (by omega) (by decide)) ?_
  refine lv_ladd hx hy dJ13_bitCount_95d88_53 ?_
  refine tL (lN_add (A5) (A5 / 2 ^ 32)) ?_
  obtain ⟨A6, eA6⟩ : ∃ z9 : Nat, z9 = A5 + A5 / 2 ^ 32 := ⟨_, rfl⟩
  refine tL (congrArg lN eA6.symm) ?_
  refine lv_lstore_n (lv' := [(0, .long (lN A6))]) hx hy dJ13_bitCount_95d88_54 rfl hl (by decide) rfl (fun ls hl => ?_)
  refine lv_lload_n hx hy dJ13_bitCount_95d88_55 rfl (lv_at hl 0 rfl) ?_
  refine lv_l2i (v := nI A6) hx hy dJ13_bitCount_95d88_56 (lN_i (A6)) ?_
  refine lv_bipush (v := nI 127) hx hy dJ13_bitCount_95d88_57 (by decide) ?_
  refine lv_iand hx hy dJ13_bitCount_95d88_59 ?_
  refine tI (nI_and (A6) (127)) ?_
  exact rI hQ F (v := ()) hI dJ13_bitCount_95d88_60 (by rw [bc8 (X := X) hX (B := A2) (C := A3) (D := A4) (E := A5) (G := A6) (by rw [eA2, a2, eA1, Nat.pow_zero, Nat.div_one]; rfl) (by rw [eA3]; rfl) (by rw [eA4]) (by rw [eA5]) (by rw [eA6])]; exact congrArg nI (fb_ct_cong fun t ht => (lb_lN t ht).symm))
set_option maxHeartbeats 400000 in
set_option maxRecDepth 100000 in
theorem kJ6_bitCount_0f7a4 (l : Launch) (E : EV) (u : SS) (X : Nat) (hX : X < 2 ^ 32) : CT l yJ6_bitCount_0f7a4 cJ6_bitCount_0f7a4 1 (some .int) (Rm 0 0) [.int (nI X)] E u (Q_i E (fun r _ => r = nI (fb_ct (fun t => X.testBit t) 32)) (fun (_ : Unit) => u)) := by
  refine mstartF RJ6 (by decide +kernel) rfl (Nat.le_of_ble_eq_true rfl) ?_
  intro p e s m args below meth co ls Q hQ F hI hl
  have hx := F.1
  have hy := F.2.1
  have hl : lv_has ls 1 [(0, .int (nI X))] := hl
  refine lv_iload_n hx hy dJ6_bitCount_0f7a4_0 rfl (lv_at hl 0 rfl) ?_
  refine lv_iload_n hx hy dJ6_bitCount_0f7a4_1 rfl (lv_at hl 0 rfl) ?_
  refine lv_iconst (v := nI 1) hx hy dJ6_bitCount_0f7a4_2 (by decide) ?_
  refine lv_iushr (v := nI (X / 2 ^ 1)) hx hy dJ6_bitCount_0f7a4_3 (pk_ushrN (n := X) (by omega) (nI 1) 1 (by decide)) ?_
  refine lv_ldcw hx hy F.2.2.2.1 (F.2.2.2.2.1 _ K_J6_265) dJ6_bitCount_0f7a4_4 ?_
  refine tI (show _ = nI 1431655765 from rfl) ?_
  refine lv_iand hx hy dJ6_bitCount_0f7a4_7 ?_
  refine tI (nI_and (X / 2 ^ 1) (1431655765)) ?_
  refine lv_isub hx hy dJ6_bitCount_0f7a4_8 ?_
  refine tI (pk_sub (a := X) (b := (X / 2 ^ 1) &&& 1431655765) (Nat.le_trans Nat.and_le_left (Nat.div_le_self _ _))) ?_
  obtain ⟨A1, eA1⟩ : ∃ z9 : Nat, z9 = X - ((X / 2 ^ 1) &&& 1431655765) := ⟨_, rfl⟩
  refine tI (congrArg nI eA1.symm) ?_
  have bA1 : A1 < 2 ^ 32 := by rw [eA1]; exact Nat.lt_of_le_of_lt (Nat.sub_le _ _) hX
  refine lv_istore_n (lv' := [(0, .int (nI A1))]) hx hy dJ6_bitCount_0f7a4_9 rfl hl (by decide) rfl (fun ls hl => ?_)
  refine lv_iload_n hx hy dJ6_bitCount_0f7a4_10 rfl (lv_at hl 0 rfl) ?_
  refine lv_ldcw hx hy F.2.2.2.1 (F.2.2.2.2.1 _ K_J6_266) dJ6_bitCount_0f7a4_11 ?_
  refine tI (show _ = nI 858993459 from rfl) ?_
  refine lv_iand hx hy dJ6_bitCount_0f7a4_14 ?_
  refine tI (nI_and (A1) (858993459)) ?_
  refine lv_iload_n hx hy dJ6_bitCount_0f7a4_15 rfl (lv_at hl 0 rfl) ?_
  refine lv_iconst (v := nI 2) hx hy dJ6_bitCount_0f7a4_16 (by decide) ?_
  refine lv_iushr (v := nI (A1 / 2 ^ 2)) hx hy dJ6_bitCount_0f7a4_17 (pk_ushrN (n := A1) (by omega) (nI 2) 2 (by decide)) ?_
  refine lv_ldcw hx hy F.2.2.2.1 (F.2.2.2.2.1 _ K_J6_266) dJ6_bitCount_0f7a4_18 ?_
  refine tI (show _ = nI 858993459 from rfl) ?_
  refine lv_iand hx hy dJ6_bitCount_0f7a4_21 ?_
  refine tI (nI_and (A1 / 2 ^ 2) (858993459)) ?_
  refine lv_iadd hx hy dJ6_bitCount_0f7a4_22 ?_
  refine tI (nI_add (A1 &&& 858993459) ((A1 / 2 ^ 2) &&& 858993459)) ?_
  obtain ⟨A2, eA2⟩ : ∃ z9 : Nat, z9 = (A1 &&& 858993459) + ((A1 / 2 ^ 2) &&& 858993459) := ⟨_, rfl⟩
  refine tI (congrArg nI eA2.symm) ?_
  have bA2 : A2 < 2 ^ 32 := by rw [eA2]; exact Nat.lt_of_le_of_lt (Nat.add_le_add (Nat.and_le_right (m := 858993459)) (Nat.and_le_right (m := 858993459))) (by decide)
  refine lv_istore_n (lv' := [(0, .int (nI A2))]) hx hy dJ6_bitCount_0f7a4_23 rfl hl (by decide) rfl (fun ls hl => ?_)
  refine lv_iload_n hx hy dJ6_bitCount_0f7a4_24 rfl (lv_at hl 0 rfl) ?_
  refine lv_iload_n hx hy dJ6_bitCount_0f7a4_25 rfl (lv_at hl 0 rfl) ?_
  refine lv_iconst (v := nI 4) hx hy dJ6_bitCount_0f7a4_26 (by decide) ?_
  refine lv_iushr (v := nI (A2 / 2 ^ 4)) hx hy dJ6_bitCount_0f7a4_27 (pk_ushrN (n := A2) (by omega) (nI 4) 4 (by decide)) ?_
  refine lv_iadd hx hy dJ6_bitCount_0f7a4_28 ?_
  refine tI (nI_add (A2) (A2 / 2 ^ 4)) ?_
  refine lv_ldcw hx hy F.2.2.2.1 (F.2.2.2.2.1 _ K_J6_267) dJ6_bitCount_0f7a4_29 ?_
  refine tI (show _ = nI 252645135 from rfl) ?_
  refine lv_iand hx hy dJ6_bitCount_0f7a4_32 ?_
  refine tI (nI_and (A2 + A2 / 2 ^ 4) (252645135)) ?_
  obtain ⟨A3, eA3⟩ : ∃ z9 : Nat, z9 = (A2 + A2 / 2 ^ 4) &&& 252645135 := ⟨_, rfl⟩
  refine tI (congrArg nI eA3.symm) ?_
  have bA3 : A3 ≤ 252645135 := by rw [eA3]; exact Nat.and_le_right
  refine lv_istore_n (lv' := [(0, .int (nI A3))]) hx hy dJ6_bitCount_0f7a4_33 rfl hl (by decide) rfl (fun ls hl => ?_)
  refine lv_iload_n hx hy dJ6_bitCount_0f7a4_34 rfl (lv_at hl 0 rfl) ?_
  refine lv_iload_n hx hy dJ6_bitCount_0f7a4_35 rfl (lv_at hl 0 rfl) ?_
  refine lv_bipush (v := nI 8) hx hy dJ6_bitCount_0f7a4_36 (by decide) ?_
  refine lv_iushr (v := nI (A3 / 2 ^ 8)) hx hy dJ6_bitCount_0f7a4_38 (pk_ushrN (n := A3) (by omega) (nI 8) 8 (by decide)) ?_
  refine lv_iadd hx hy dJ6_bitCount_0f7a4_39 ?_
  refine tI (nI_add (A3) (A3 / 2 ^ 8)) ?_
  obtain ⟨A4, eA4⟩ : ∃ z9 : Nat, z9 = A3 + A3 / 2 ^ 8 := ⟨_, rfl⟩
  refine tI (congrArg nI eA4.symm) ?_
  refine lv_istore_n (lv' := [(0, .int (nI A4))]) hx hy dJ6_bitCount_0f7a4_40 rfl hl (by decide) rfl (fun ls hl => ?_)
  refine lv_iload_n hx hy dJ6_bitCount_0f7a4_41 rfl (lv_at hl 0 rfl) ?_
  refine lv_iload_n hx hy dJ6_bitCount_0f7a4_42 rfl (lv_at hl 0 rfl) ?_
  refine lv_bipush (v := nI 16) hx hy dJ6_bitCount_0f7a4_43 (by decide) ?_
  refine lv_iushr (v := nI (A4 / 2 ^ 16)) hx hy dJ6_bitCount_0f7a4_45 (pk_ushrN (n := A4) (by omega) (nI 16) 16 (by decide)) ?_
  refine lv_iadd hx hy dJ6_bitCount_0f7a4_46 ?_
  refine tI (nI_add (A4) (A4 / 2 ^ 16)) ?_
  obtain ⟨A5, eA5⟩ : ∃ z9 : Nat, z9 = A4 + A4 / 2 ^ 16 := ⟨_, rfl⟩
  refine tI (congrArg nI eA5.symm) ?_
  refine lv_istore_n (lv' := [(0, .int (nI A5))]) hx hy dJ6_bitCount_0f7a4_47 rfl hl (by decide) rfl (fun ls hl => ?_)
  refine lv_iload_n hx hy dJ6_bitCount_0f7a4_48 rfl (lv_at hl 0 rfl) ?_
  refine lv_bipush (v := nI 63) hx hy dJ6_bitCount_0f7a4_49 (by decide) ?_
  refine lv_iand hx hy dJ6_bitCount_0f7a4_51 ?_
  refine tI (nI_and (A5) (63)) ?_
  exact rI hQ F (v := ()) hI dJ6_bitCount_0f7a4_52 (by rw [bc4 (X := X) (by omega) (B := A2) (C := A3) (D := A4) (E := A5) (by rw [eA2, a2, eA1, Nat.pow_zero, Nat.div_one]; rfl) (by rw [eA3]; rfl) (by rw [eA4]) (by rw [eA5])])
