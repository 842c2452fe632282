set_option maxHeartbeats 400000 in
set_option maxRecDepth 100000 in
theorem kX4_bitAt (l : Launch) (E : EV) (u : SS) (i t : Nat) (hi : i < 16) (ht : t < 1024) : CT l yX4_bitAt cX4_bitAt 3 (some .int) (Rm 1 23) [.ref (eA E 9), .int (nI i), .int (nI t)] E u (Q_i E (fun r _ => r = nI (bN (gb u.2 i t))) (fun (_ : Unit) => u)) := by
  refine mstart RX4 (by decide +kernel) rfl (Nat.le_of_ble_eq_true rfl) ?_
  intro p e s m args below meth co ls Q hQ F hI hl
  have hx := F.1
  have hy := F.2.1
  have hl : lv_has ls 3 [(0, .ref (eA E 9)), (1, .int (nI i)), (2, .int (nI t))] := hl
  refine lv_aload_n hx hy dX4_bitAt_0 rfl (lv_at hl 0 rfl) ?_
  refine lv_iload_n hx hy dX4_bitAt_1 rfl (lv_at hl 1 rfl) ?_
  refine lv_iload_n hx hy dX4_bitAt_2 rfl (lv_at hl 2 rfl) ?_
  refine lv_bipush (v := nI 64) hx hy dX4_bitAt_3 (by decide) ?_
  refine lv_idiv hx hy dX4_bitAt_5 (fun q => absurd ((nI_eq (by omega) (by omega)).mp (show nI (64) = nI 0 from q)) (by omega)) ?_
  refine tI (pk_div (a := t) (d := 64) (by omega) (by omega) (by omega)) ?_
  refine zL hI (xV F hI hl (kX4_wordAt l E (u) i (by omega) (nI (t / 64))) M_X4_45 (rX4 F hI) rfl ⟨Nat.le_of_ble_eq_true rfl, Nat.le_of_ble_eq_true rfl⟩ ⟨Nat.zero_le _, Nat.zero_le _⟩ rfl (Nat.le_of_ble_eq_true rfl) dX4_bitAt_6) (fun r2 v3 H locs hI hp1 => ?_)
  rw [wdE_in (by omega) (by omega)] at hp1
  subst hp1
  refine lv_iload_n hx hy dX4_bitAt_9 rfl (lv_at hl 2 rfl) ?_
  refine lv_bipush (v := nI 64) hx hy dX4_bitAt_10 (by decide) ?_
  refine lv_irem hx hy dX4_bitAt_12 (fun q => absurd ((nI_eq (by omega) (by omega)).mp (show nI (64) = nI 0 from q)) (by omega)) ?_
  refine tI (pk_rem (a := t) (d := 64) (by omega) (by omega) (by omega)) ?_
  refine lv_lushr (v := (Int64.toUInt64 (u.2 i (t / 64)) >>> ((Int32.toInt64 (nI (t % 64))).toUInt64 &&& Int64.toUInt64 63)).toInt64) hx hy dX4_bitAt_13 rfl ?_
  refine lv_l2i (v := Int64.toInt32 ((Int64.toUInt64 (u.2 i (t / 64)) >>> ((Int32.toInt64 (nI (t % 64))).toUInt64 &&& Int64.toUInt64 63)).toInt64)) hx hy dX4_bitAt_14 rfl ?_
  refine lv_iconst (v := nI 1) hx hy dX4_bitAt_15 (by decide) ?_
  refine lv_iand hx hy dX4_bitAt_16 ?_
  exact rI hQ F (v := ()) hI dX4_bitAt_17 (by rw [bitAt_eq _ (Nat.mod_lt _ (by decide))]; rfl)
set_option maxHeartbeats 400000 in
set_option maxRecDepth 100000 in
theorem kX4_onesInBoth (l : Launch) (E : EV) (u : SS) (a b tk : Nat) (ha : a < 16) (hb : b < 16) (htk : tk ≤ 1000) : CT l yX4_onesInBoth cX4_onesInBoth 8 (some .int) (Rm 1 23) [.ref (eA E 9), .int (nI a), .int (nI b), .int (nI tk)] E u (Q_i E (fun r _ => r = nI (fb_ct (fun t => gb u.2 a t && gb u.2 b t) tk)) (fun (_ : Unit) => u)) := by
  refine mstart RX4 (by decide +kernel) rfl (Nat.le_of_ble_eq_true rfl) ?_
  intro p e s m args below meth co ls Q hQ F hI hl
  have hx := F.1
  have hy := F.2.1
  have hl : lv_has ls 8 [(0, .ref (eA E 9)), (1, .int (nI a)), (2, .int (nI b)), (3, .int (nI tk))] := hl
  refine lv_iconst (v := nI 0) hx hy dX4_onesInBoth_0 (by decide) ?_
  refine lv_istore (lv' := [(4, .int (nI 0)), (0, .ref (eA E 9)), (1, .int (nI a)), (2, .int (nI b)), (3, .int (nI tk))]) hx hy dX4_onesInBoth_1 hl (by decide) rfl (fun ls hl => ?_)
  refine lv_iload_n hx hy dX4_onesInBoth_3 rfl (lv_at hl 4 rfl) ?_
  refine lv_bipush (v := nI 64) hx hy dX4_onesInBoth_4 (by decide) ?_
  refine lv_idiv hx hy dX4_onesInBoth_6 (fun q => absurd ((nI_eq (by omega) (by omega)).mp (show nI (64) = nI 0 from q)) (by omega)) ?_
  refine tI (pk_div (a := tk) (d := 64) (by omega) (by omega) (by omega)) ?_
  refine lv_istore (lv' := [(5, .int (nI (tk / 64))), (4, .int (nI 0)), (0, .ref (eA E 9)), (1, .int (nI a)), (2, .int (nI b)), (3, .int (nI tk))]) hx hy dX4_onesInBoth_7 hl (by decide) rfl (fun ls hl => ?_)
  refine lv_iconst (v := nI 0) hx hy dX4_onesInBoth_9 (by decide) ?_
  refine lv_istore (lv' := [(6, .int (nI 0)), (5, .int (nI (tk / 64))), (4, .int (nI 0)), (0, .ref (eA E 9)), (1, .int (nI a)), (2, .int (nI b)), (3, .int (nI tk))]) hx hy dX4_onesInBoth_10 hl (by decide) rfl (fun ls hl => ?_)
  have lp1 : ∀ (fu : Nat) (w : Nat), (w ≤ tk / 64) → (tk / 64 - w < fu) →  ∀ (H : Heap) (locs : List Loc) (ls : Array Slot), Iv E s H locs (u) → lv_has ls 8 [(6, .int (nI w)), (4, .int (nI (fb_ct (fun t => gb u.2 a t && gb u.2 b t) (64 * w)))), (5, .int (nI (tk / 64))), (0, .ref (eA E 9)), (1, .int (nI a)), (2, .int (nI b)), (3, .int (nI tk))] → W p l e (Rm 1 23) s m args below meth co H locs 0 0 Q (F0 m 12 ls []) := by
    intro fu
    induction fu with
    | zero => intro w hi hf; exact absurd hf (Nat.not_lt_zero _)
    | succ fu ih =>
      intro w hi hf H locs ls hI hl
      have ih_12 := ih
      refine lv_iload hx hy dX4_onesInBoth_12 (lv_at hl 0 rfl) ?_
      refine lv_iload hx hy dX4_onesInBoth_14 (lv_at hl 2 rfl) ?_
      refine lv_icmp_ge (tgt := 48) hx hy dX4_onesInBoth_16 (by decide) (fun h2 => ?_) (fun h2 => ?_)
      · have h2 : tk / 64 ≤ w := (nI_leI (a := tk / 64) (b := w) (by omega) (by omega)).mp h2
        have e8 : w = tk / 64 := by omega
        rw [e8] at hl
        refine lv_lconst (v := lN 1) hx hy dX4_onesInBoth_48 (by decide) ?_
        refine lv_iload_n hx hy dX4_onesInBoth_49 rfl (lv_at hl 6 rfl) ?_
        refine lv_bipush (v := nI 64) hx hy dX4_onesInBoth_50 (by decide) ?_
        refine lv_irem hx hy dX4_onesInBoth_52 (fun q => absurd ((nI_eq (by omega) (by omega)).mp (show nI (64) = nI 0 from q)) (by omega)) ?_
        refine tI (pk_rem (a := tk) (d := 64) (by omega) (by omega) (by omega)) ?_
        refine lv_lshl (v := (lN 1) <<< (Int32.toInt64 (nI (tk % 64)) &&& 63)) hx hy dX4_onesInBoth_53 rfl ?_
        refine lv_lconst (v := lN 1) hx hy dX4_onesInBoth_54 (by decide) ?_
        refine lv_lsub hx hy dX4_onesInBoth_55 ?_
        refine lv_lstore (lv' := [(6, .long (((lN 1) <<< (Int32.toInt64 (nI (tk % 64)) &&& 63)) - (lN 1))), (4, .int (nI (fb_ct (fun t => gb u.2 a t && gb u.2 b t) (64 * (tk / 64))))), (5, .int (nI (tk / 64))), (0, .ref (eA E 9)), (1, .int (nI a)), (2, .int (nI b)), (3, .int (nI tk))]) hx hy dX4_onesInBoth_56 hl (by decide) rfl (fun ls hl => ?_)
        refine lv_iload hx hy dX4_onesInBoth_58 (lv_at hl 1 rfl) ?_
        refine lv_aload_n hx hy dX4_onesInBoth_60 rfl (lv_at hl 3 rfl) ?_
        refine lv_iload_n hx hy dX4_onesInBoth_61 rfl (lv_at hl 4 rfl) ?_
        refine lv_iload hx hy dX4_onesInBoth_62 (lv_at hl 2 rfl) ?_
        refine zL hI (xV F hI hl (kX4_wordAt l E (u) a (by omega) (nI (tk / 64))) M_X4_45 (rX4 F hI) rfl ⟨Nat.le_of_ble_eq_true rfl, Nat.le_of_ble_eq_true rfl⟩ ⟨Nat.zero_le _, Nat.zero_le _⟩ rfl (Nat.le_of_ble_eq_true rfl) dX4_onesInBoth_64) (fun r4 v5 H locs hI hp3 => ?_)
        rw [wdE_in (by omega) (by omega)] at hp3
        subst hp3
        refine lv_aload_n hx hy dX4_onesInBoth_67 rfl (lv_at hl 3 rfl) ?_
        refine lv_iload_n hx hy dX4_onesInBoth_68 rfl (lv_at hl 5 rfl) ?_
        refine lv_iload hx hy dX4_onesInBoth_69 (lv_at hl 2 rfl) ?_
        refine zL hI (xV F hI hl (kX4_wordAt l E (u) b (by omega) (nI (tk / 64))) M_X4_45 (rX4 F hI) rfl ⟨Nat.le_of_ble_eq_true rfl, Nat.le_of_ble_eq_true rfl⟩ ⟨Nat.zero_le _, Nat.zero_le _⟩ rfl (Nat.le_of_ble_eq_true rfl) dX4_onesInBoth_71) (fun r7 v8 H locs hI hp6 => ?_)
        rw [wdE_in (by omega) (by omega)] at hp6
        subst hp6
        refine lv_land hx hy dX4_onesInBoth_74 ?_
        refine lv_lload hx hy dX4_onesInBoth_75 (lv_at hl 0 rfl) ?_
        refine lv_land hx hy dX4_onesInBoth_77 ?_
        refine zI hI (xS F hI hl (kJ13_bitCount_95d88 l E (u) (((u.2 a (tk / 64)) &&& (u.2 b (tk / 64))) &&& (((lN 1) <<< (Int32.toInt64 (nI (tk % 64)) &&& 63)) - (lN 1)))) M_X4_55 rfl ⟨Nat.le_of_ble_eq_true rfl, Nat.le_of_ble_eq_true rfl⟩ ⟨Nat.zero_le _, Nat.zero_le _⟩ rfl (Nat.le_of_ble_eq_true rfl) dX4_onesInBoth_78) (fun r10 v11 H locs hI hp9 => ?_)
        subst hp9
        refine lv_iadd hx hy dX4_onesInBoth_81 ?_
        refine tI (nI_add (fb_ct (fun t => gb u.2 a t && gb u.2 b t) (64 * (tk / 64))) (popc (((u.2 a (tk / 64)) &&& (u.2 b (tk / 64))) &&& (((lN 1) <<< (Int32.toInt64 (nI (tk % 64)) &&& 63)) - (lN 1))))) ?_
        exact rI hQ F (v := ()) hI dX4_onesInBoth_82 (congrArg nI (ones_end u.2 a b tk).symm)
      · have h2 : w < tk / 64 := Nat.lt_of_not_le (fun q9 => h2 ((nI_leI (a := tk / 64) (b := w) (by omega) (by omega)).mpr q9))
        refine lv_iload hx hy dX4_onesInBoth_19 (lv_at hl 1 rfl) ?_
        refine lv_aload_n hx hy dX4_onesInBoth_21 rfl (lv_at hl 3 rfl) ?_
        refine lv_iload_n hx hy dX4_onesInBoth_22 rfl (lv_at hl 4 rfl) ?_
        refine lv_iload hx hy dX4_onesInBoth_23 (lv_at hl 0 rfl) ?_
        refine zL hI (xV F hI hl (kX4_wordAt l E (u) a (by omega) (nI w)) M_X4_45 (rX4 F hI) rfl ⟨Nat.le_of_ble_eq_true rfl, Nat.le_of_ble_eq_true rfl⟩ ⟨Nat.zero_le _, Nat.zero_le _⟩ rfl (Nat.le_of_ble_eq_true rfl) dX4_onesInBoth_25) (fun r13 v14 H locs hI hp12 => ?_)
        rw [wdE_in (by omega) (by omega)] at hp12
        subst hp12
        refine lv_aload_n hx hy dX4_onesInBoth_28 rfl (lv_at hl 3 rfl) ?_
        refine lv_iload_n hx hy dX4_onesInBoth_29 rfl (lv_at hl 5 rfl) ?_
        refine lv_iload hx hy dX4_onesInBoth_30 (lv_at hl 0 rfl) ?_
        refine zL hI (xV F hI hl (kX4_wordAt l E (u) b (by omega) (nI w)) M_X4_45 (rX4 F hI) rfl ⟨Nat.le_of_ble_eq_true rfl, Nat.le_of_ble_eq_true rfl⟩ ⟨Nat.zero_le _, Nat.zero_le _⟩ rfl (Nat.le_of_ble_eq_true rfl) dX4_onesInBoth_32) (fun r16 v17 H locs hI hp15 => ?_)
        rw [wdE_in (by omega) (by omega)] at hp15
        subst hp15
        refine lv_land hx hy dX4_onesInBoth_35 ?_
        refine zI hI (xS F hI hl (kJ13_bitCount_95d88 l E (u) ((u.2 a w) &&& (u.2 b w))) M_X4_55 rfl ⟨Nat.le_of_ble_eq_true rfl, Nat.le_of_ble_eq_true rfl⟩ ⟨Nat.zero_le _, Nat.zero_le _⟩ rfl (Nat.le_of_ble_eq_true rfl) dX4_onesInBoth_36) (fun r19 v20 H locs hI hp18 => ?_)
        subst hp18
        refine lv_iadd hx hy dX4_onesInBoth_39 ?_
        refine tI (nI_add (fb_ct (fun t => gb u.2 a t && gb u.2 b t) (64 * w)) (popc ((u.2 a w) &&& (u.2 b w)))) ?_
        refine lv_istore (lv' := [(4, .int (nI (fb_ct (fun t => gb u.2 a t && gb u.2 b t) (64 * w) + (popc ((u.2 a w) &&& (u.2 b w)))))), (6, .int (nI w)), (5, .int (nI (tk / 64))), (0, .ref (eA E 9)), (1, .int (nI a)), (2, .int (nI b)), (3, .int (nI tk))]) hx hy dX4_onesInBoth_40 hl (by decide) rfl (fun ls hl => ?_)
        rw [← ones_step u.2 a b w] at hl
        refine lv_iinc (v := nI (w + 1)) (lv' := [(6, .int (nI (w + 1))), (4, .int (nI (fb_ct (fun t => gb u.2 a t && gb u.2 b t) (64 * (w + 1))))), (5, .int (nI (tk / 64))), (0, .ref (eA E 9)), (1, .int (nI a)), (2, .int (nI b)), (3, .int (nI tk))]) hx hy dX4_onesInBoth_42 hl (k := 1) rfl (nI_add (w) 1) (by decide) rfl (fun ls hl => ?_)
        refine lv_goto (tgt := 12) hx hy dX4_onesInBoth_45 (by decide) ?_
        exact ih_12 (w + 1) (by omega) (by omega) _ _ _ hI (lv_sub hl [0, 1, 2, 3, 4, 5, 6] rfl)
  exact lp1 (tk / 64 + 1) 0 (Nat.zero_le _) (by omega) _ _ _ hI (lv_sub hl [0, 2, 1, 3, 4, 5, 6] rfl)
set_option maxHeartbeats 400000 in
set_option maxRecDepth 100000 in
theorem kX4_onesIn (l : Launch) (E : EV) (u : SS) (a tk : Nat) (ha : a < 16) (htk : tk ≤ 1000) : CT l yX4_onesIn cX4_onesIn 3 (some .int) (Rm 2 50) [.ref (eA E 9), .int (nI a), .int (nI tk)] E u (Q_i E (fun r _ => r = nI (fb_ct (fun t => gb u.2 a t) tk)) (fun (_ : Unit) => u)) := by
  refine mstart RX4 (by decide +kernel) rfl (Nat.le_of_ble_eq_true rfl) ?_
  intro p e s m args below meth co ls Q hQ F hI hl
  have hx := F.1
  have hy := F.2.1
  have hl : lv_has ls 3 [(0, .ref (eA E 9)), (1, .int (nI a)), (2, .int (nI tk))] := hl
  refine lv_aload_n hx hy dX4_onesIn_0 rfl (lv_at hl 0 rfl) ?_
  refine lv_iload_n hx hy dX4_onesIn_1 rfl (lv_at hl 1 rfl) ?_
  refine lv_iload_n hx hy dX4_onesIn_2 rfl (lv_at hl 1 rfl) ?_
  refine lv_iload_n hx hy dX4_onesIn_3 rfl (lv_at hl 2 rfl) ?_
  refine zI hI (xV F hI hl (kX4_onesInBoth l E (u) a a tk (by omega) (by omega) (by omega)) M_X4_51 (rX4 F hI) rfl ⟨Nat.le_of_ble_eq_true rfl, Nat.le_of_ble_eq_true rfl⟩ ⟨Nat.zero_le _, Nat.zero_le _⟩ rfl (Nat.le_of_ble_eq_true rfl) dX4_onesIn_4) (fun r2 v3 H locs hI hp1 => ?_)
  subst hp1
  exact rI hQ F (v := ()) hI dX4_onesIn_7 (congrArg nI (fb_ct_cong fun t _ => Bool.and_self _))
