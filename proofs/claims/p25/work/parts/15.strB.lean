set_option maxHeartbeats 400000 in
set_option maxRecDepth 100000 in
theorem kX4_madeWord (l : Launch) (E : EV) (u : SS) {b n : Nat} {f : Nat → Ln} (hb : b < 7) (hR : RepL b u.1 n f) (h16 : n ≤ 16) (j v : Nat) (hj : j < n) (hok : LnOk j (f j)) (hk : 1 ≤ (f j).1) (hv : v < 16) (hW : ∀ i, i < j → RowG u.2 f i (v + 1)) : CT l yX4_madeWord cX4_madeWord 10 (some .long) (Rm 2 43) [.ref (eA E 9), .ref (eA E (10 + 3 * b)), .int (nI j), .int (nI v)] E u (Q_l E (fun z _ => ∀ t, t < 64 → lb z t = bt f j (64 * v + t)) (fun (_ : Unit) => u)) := by
  refine mstart RX4 (by decide +kernel) rfl (Nat.le_of_ble_eq_true rfl) ?_
  intro p e s m args below meth co ls Q hQ F hI hl
  have hx := F.1
  have hy := F.2.1
  have hl : lv_has ls 10 [(0, .ref (eA E 9)), (1, .ref (eA E (10 + 3 * b))), (2, .int (nI j)), (3, .int (nI v))] := hl
  have hA := hok.2.2.1 hk
  have hB9 := hok.2.2.2.2.2.2.1
  have hC9 := hok.2.2.2.2.2.2.2
  have hk6 := hok.1
  refine lv_aload_n hx hy dX4_madeWord_0 rfl (lv_at hl 1 rfl) ?_
  refine lv_iload_n hx hy dX4_madeWord_1 rfl (lv_at hl 2 rfl) ?_
  refine lv_iconst (v := nI 1) hx hy dX4_madeWord_2 (by decide) ?_
  refine zI hI (xV F hI hl (kX0_numberOf l E (u) (b := b) hb (nI j) (nI 1)) M_X4_26 (rX0 F hI (b := b) hb) rfl ⟨Nat.le_of_ble_eq_true rfl, Nat.le_of_ble_eq_true rfl⟩ ⟨Nat.zero_le _, Nat.zero_le _⟩ rfl (Nat.le_of_ble_eq_true rfl) dX4_madeWord_3) (fun r2 v3 H locs hI hp1 => ?_)
  rw [show nI j * nI 3 + nI 1 - nI 1 = nI (3 * j) from ix3 j 0, el_lt (by omega) (by decide)] at hp1
  subst hp1
  refine tI (hR.2 j hj).2.1 ?_
  refine lv_istore (lv' := [(4, .int (nI ((f j).2.1))), (0, .ref (eA E 9)), (1, .ref (eA E (10 + 3 * b))), (2, .int (nI j)), (3, .int (nI v))]) hx hy dX4_madeWord_6 hl (by decide) rfl (fun ls hl => ?_)
  refine lv_aload_n hx hy dX4_madeWord_8 rfl (lv_at hl 2 rfl) ?_
  refine lv_iload_n hx hy dX4_madeWord_9 rfl (lv_at hl 3 rfl) ?_
  refine lv_iconst (v := nI 2) hx hy dX4_madeWord_10 (by decide) ?_
  refine zI hI (xV F hI hl (kX0_numberOf l E (u) (b := b) hb (nI j) (nI 2)) M_X4_26 (rX0 F hI (b := b) hb) rfl ⟨Nat.le_of_ble_eq_true rfl, Nat.le_of_ble_eq_true rfl⟩ ⟨Nat.zero_le _, Nat.zero_le _⟩ rfl (Nat.le_of_ble_eq_true rfl) dX4_madeWord_11) (fun r5 v6 H locs hI hp4 => ?_)
  rw [show nI j * nI 3 + nI 2 - nI 1 = nI (3 * j + 1) from ix3 j 1, el_lt (by omega) (by decide)] at hp4
  subst hp4
  refine tI (hR.2 j hj).2.2.1 ?_
  refine lv_istore (lv' := [(5, .int (nI ((f j).2.2.1))), (4, .int (nI ((f j).2.1))), (0, .ref (eA E 9)), (1, .ref (eA E (10 + 3 * b))), (2, .int (nI j)), (3, .int (nI v))]) hx hy dX4_madeWord_14 hl (by decide) rfl (fun ls hl => ?_)
  refine lv_aload_n hx hy dX4_madeWord_16 rfl (lv_at hl 2 rfl) ?_
  refine lv_iload hx hy dX4_madeWord_17 (lv_at hl 1 rfl) ?_
  refine lv_iload_n hx hy dX4_madeWord_19 rfl (lv_at hl 5 rfl) ?_
  refine zL hI (xV F hI hl (kX4_wordAt l E (u) ((f j).2.1) (by omega) (nI v)) M_X4_45 (rX4 F hI) rfl ⟨Nat.le_of_ble_eq_true rfl, Nat.le_of_ble_eq_true rfl⟩ ⟨Nat.zero_le _, Nat.zero_le _⟩ rfl (Nat.le_of_ble_eq_true rfl) dX4_madeWord_20) (fun r8 v9 H locs hI hp7 => ?_)
  rw [wdE_in (by omega) (by omega)] at hp7
  subst hp7
  refine lv_lstore (lv' := [(6, .long (u.2 ((f j).2.1) v)), (5, .int (nI ((f j).2.2.1))), (4, .int (nI ((f j).2.1))), (0, .ref (eA E 9)), (1, .ref (eA E (10 + 3 * b))), (2, .int (nI j)), (3, .int (nI v))]) hx hy dX4_madeWord_23 hl (by decide) rfl (fun ls hl => ?_)
  refine lv_aload_n hx hy dX4_madeWord_25 rfl (lv_at hl 4 rfl) ?_
  refine lv_iload_n hx hy dX4_madeWord_26 rfl (lv_at hl 5 rfl) ?_
  refine zI hI (xV F hI hl (kX0_kindOf l E (u) (b := b) hb (nI j)) M_X4_20 (rX0 F hI (b := b) hb) rfl ⟨Nat.le_of_ble_eq_true rfl, Nat.le_of_ble_eq_true rfl⟩ ⟨Nat.zero_le _, Nat.zero_le _⟩ rfl (Nat.le_of_ble_eq_true rfl) dX4_madeWord_27) (fun r11 v12 H locs hI hp10 => ?_)
  rw [el_lt (by omega) (by decide)] at hp10
  subst hp10
  refine tI (hR.2 j hj).1 ?_
  rcases (show (f j).1 = 1 ∨ (f j).1 = 2 ∨ (f j).1 = 3 ∨ (f j).1 = 4 ∨ (f j).1 = 5 ∨ (f j).1 = 6 by omega) with hk13 | hk13 | hk13 | hk13 | hk13 | hk13
  · refine tI (show nI ((f j).1) = nI 1 from by rw [hk13]) ?_
    refine lv_tableIn (tgt := 64) hx hy dX4_madeWord_30 (by decide) (by decide) (by rfl) (by decide) ?_
    have hB := hok.2.2.2.1 (by omega) (by omega)
    refine lv_lload hx hy dX4_madeWord_64 (lv_at hl 0 rfl) ?_
    refine lv_aload_n hx hy dX4_madeWord_66 rfl (lv_at hl 3 rfl) ?_
    refine lv_iload hx hy dX4_madeWord_67 (lv_at hl 1 rfl) ?_
    refine lv_iload_n hx hy dX4_madeWord_69 rfl (lv_at hl 6 rfl) ?_
    refine zL hI (xV F hI hl (kX4_wordAt l E (u) ((f j).2.2.1) (by omega) (nI v)) M_X4_45 (rX4 F hI) rfl ⟨Nat.le_of_ble_eq_true rfl, Nat.le_of_ble_eq_true rfl⟩ ⟨Nat.zero_le _, Nat.zero_le _⟩ rfl (Nat.le_of_ble_eq_true rfl) dX4_madeWord_70) (fun r15 v16 H locs hI hp14 => ?_)
    rw [wdE_in (by omega) (by omega)] at hp14
    subst hp14
    refine lv_land hx hy dX4_madeWord_73 ?_
    exact rL hQ F (v := ()) hI dX4_madeWord_74 (fun t ht => by rw [lb_and, hW _ hA v (by omega) t ht, hW _ hB v (by omega) t ht, bt_1 hok hk13])
  · refine tI (show nI ((f j).1) = nI 2 from by rw [hk13]) ?_
    refine lv_tableIn (tgt := 75) hx hy dX4_madeWord_30 (by decide) (by decide) (by rfl) (by decide) ?_
    have hB := hok.2.2.2.1 (by omega) (by omega)
    refine lv_lload hx hy dX4_madeWord_75 (lv_at hl 0 rfl) ?_
    refine lv_aload_n hx hy dX4_madeWord_77 rfl (lv_at hl 3 rfl) ?_
    refine lv_iload hx hy dX4_madeWord_78 (lv_at hl 1 rfl) ?_
    refine lv_iload_n hx hy dX4_madeWord_80 rfl (lv_at hl 6 rfl) ?_
    refine zL hI (xV F hI hl (kX4_wordAt l E (u) ((f j).2.2.1) (by omega) (nI v)) M_X4_45 (rX4 F hI) rfl ⟨Nat.le_of_ble_eq_true rfl, Nat.le_of_ble_eq_true rfl⟩ ⟨Nat.zero_le _, Nat.zero_le _⟩ rfl (Nat.le_of_ble_eq_true rfl) dX4_madeWord_81) (fun r18 v19 H locs hI hp17 => ?_)
    rw [wdE_in (by omega) (by omega)] at hp17
    subst hp17
    refine lv_lor hx hy dX4_madeWord_84 ?_
    exact rL hQ F (v := ()) hI dX4_madeWord_85 (fun t ht => by rw [lb_or, hW _ hA v (by omega) t ht, hW _ hB v (by omega) t ht, bt_2 hok hk13])
  · refine tI (show nI ((f j).1) = nI 3 from by rw [hk13]) ?_
    refine lv_tableIn (tgt := 86) hx hy dX4_madeWord_30 (by decide) (by decide) (by rfl) (by decide) ?_
    have hB := hok.2.2.2.1 (by omega) (by omega)
    refine lv_lload hx hy dX4_madeWord_86 (lv_at hl 0 rfl) ?_
    refine lv_aload_n hx hy dX4_madeWord_88 rfl (lv_at hl 3 rfl) ?_
    refine lv_iload hx hy dX4_madeWord_89 (lv_at hl 1 rfl) ?_
    refine lv_iload_n hx hy dX4_madeWord_91 rfl (lv_at hl 6 rfl) ?_
    refine zL hI (xV F hI hl (kX4_wordAt l E (u) ((f j).2.2.1) (by omega) (nI v)) M_X4_45 (rX4 F hI) rfl ⟨Nat.le_of_ble_eq_true rfl, Nat.le_of_ble_eq_true rfl⟩ ⟨Nat.zero_le _, Nat.zero_le _⟩ rfl (Nat.le_of_ble_eq_true rfl) dX4_madeWord_92) (fun r21 v22 H locs hI hp20 => ?_)
    rw [wdE_in (by omega) (by omega)] at hp20
    subst hp20
    refine lv_lxor hx hy dX4_madeWord_95 ?_
    exact rL hQ F (v := ()) hI dX4_madeWord_96 (fun t ht => by rw [lb_xor, hW _ hA v (by omega) t ht, hW _ hB v (by omega) t ht, bt_3 hok hk13])
  · refine tI (show nI ((f j).1) = nI 4 from by rw [hk13]) ?_
    refine lv_tableIn (tgt := 97) hx hy dX4_madeWord_30 (by decide) (by decide) (by rfl) (by decide) ?_
    have hB := hok.2.2.2.1 (by omega) (by omega)
    have hC := hok.2.2.2.2.1 hk13
    refine lv_aload_n hx hy dX4_madeWord_97 rfl (lv_at hl 3 rfl) ?_
    refine lv_aload_n hx hy dX4_madeWord_98 rfl (lv_at hl 4 rfl) ?_
    refine lv_iload_n hx hy dX4_madeWord_99 rfl (lv_at hl 5 rfl) ?_
    refine lv_iconst (v := nI 3) hx hy dX4_madeWord_100 (by decide) ?_
    refine zI hI (xV F hI hl (kX0_numberOf l E (u) (b := b) hb (nI j) (nI 3)) M_X4_26 (rX0 F hI (b := b) hb) rfl ⟨Nat.le_of_ble_eq_true rfl, Nat.le_of_ble_eq_true rfl⟩ ⟨Nat.zero_le _, Nat.zero_le _⟩ rfl (Nat.le_of_ble_eq_true rfl) dX4_madeWord_101) (fun r24 v25 H locs hI hp23 => ?_)
    rw [show nI j * nI 3 + nI 3 - nI 1 = nI (3 * j + 2) from ix3 j 2, el_lt (by omega) (by decide)] at hp23
    subst hp23
    refine tI (hR.2 j hj).2.2.2 ?_
    refine lv_iload_n hx hy dX4_madeWord_104 rfl (lv_at hl 6 rfl) ?_
    refine zL hI (xV F hI hl (kX4_wordAt l E (u) ((f j).2.2.2) (by omega) (nI v)) M_X4_45 (rX4 F hI) rfl ⟨Nat.le_of_ble_eq_true rfl, Nat.le_of_ble_eq_true rfl⟩ ⟨Nat.zero_le _, Nat.zero_le _⟩ rfl (Nat.le_of_ble_eq_true rfl) dX4_madeWord_105) (fun r27 v28 H locs hI hp26 => ?_)
    rw [wdE_in (by omega) (by omega)] at hp26
    subst hp26
    refine lv_lstore (lv' := [(8, .long (u.2 ((f j).2.2.2) v)), (6, .long (u.2 ((f j).2.1) v)), (5, .int (nI ((f j).2.2.1))), (4, .int (nI ((f j).2.1))), (0, .ref (eA E 9)), (1, .ref (eA E (10 + 3 * b))), (2, .int (nI j)), (3, .int (nI v))]) hx hy dX4_madeWord_108 hl (by decide) rfl (fun ls hl => ?_)
    refine lv_lload hx hy dX4_madeWord_110 (lv_at hl 1 rfl) ?_
    refine lv_lload hx hy dX4_madeWord_112 (lv_at hl 0 rfl) ?_
    refine lv_land hx hy dX4_madeWord_114 ?_
    refine lv_aload_n hx hy dX4_madeWord_115 rfl (lv_at hl 4 rfl) ?_
    refine lv_iload hx hy dX4_madeWord_116 (lv_at hl 2 rfl) ?_
    refine lv_iload_n hx hy dX4_madeWord_118 rfl (lv_at hl 7 rfl) ?_
    refine zL hI (xV F hI hl (kX4_wordAt l E (u) ((f j).2.2.1) (by omega) (nI v)) M_X4_45 (rX4 F hI) rfl ⟨Nat.le_of_ble_eq_true rfl, Nat.le_of_ble_eq_true rfl⟩ ⟨Nat.zero_le _, Nat.zero_le _⟩ rfl (Nat.le_of_ble_eq_true rfl) dX4_madeWord_119) (fun r30 v31 H locs hI hp29 => ?_)
    rw [wdE_in (by omega) (by omega)] at hp29
    subst hp29
    refine lv_lload hx hy dX4_madeWord_122 (lv_at hl 0 rfl) ?_
    refine zcl F K_X4_49 dX4_madeWord_124 ?_
    refine tL (show _ = lN 18446744073709551615 from rfl) ?_
    refine lv_lxor hx hy dX4_madeWord_127 ?_
    refine lv_land hx hy dX4_madeWord_128 ?_
    refine lv_lor hx hy dX4_madeWord_129 ?_
    exact rL hQ F (v := ()) hI dX4_madeWord_130 (fun t ht => by rw [lb_or, lb_and, lb_and, lb_xor, lb_m1 ht, hW _ hA v (by omega) t ht, hW _ hB v (by omega) t ht, hW _ hC v (by omega) t ht, bt_4 hok hk13]; cases bt f (f j).2.2.2 (64 * v + t) <;> simp)
  · refine tI (show nI ((f j).1) = nI 5 from by rw [hk13]) ?_
    refine lv_tableIn (tgt := 131) hx hy dX4_madeWord_30 (by decide) (by decide) (by rfl) (by decide) ?_
    refine lv_lload hx hy dX4_madeWord_131 (lv_at hl 0 rfl) ?_
    refine zcl F K_X4_49 dX4_madeWord_133 ?_
    refine tL (show _ = lN 18446744073709551615 from rfl) ?_
    refine lv_lxor hx hy dX4_madeWord_136 ?_
    exact rL hQ F (v := ()) hI dX4_madeWord_137 (fun t ht => by rw [lb_xor, lb_m1 ht, hW _ hA v (by omega) t ht, bt_5 hok hk13, Bool.xor_true])
  · refine tI (show nI ((f j).1) = nI 6 from by rw [hk13]) ?_
    refine lv_tableOut (tgt := 138) hx hy dX4_madeWord_30 (by decide) (by decide) ?_
    have hD := hok.2.2.2.2.2.1 hk13
    refine lv_lload hx hy dX4_madeWord_138 (lv_at hl 0 rfl) ?_
    refine lv_iload hx hy dX4_madeWord_140 (lv_at hl 1 rfl) ?_
    refine lv_lshl (v := (u.2 ((f j).2.1) v) <<< (Int32.toInt64 (nI ((f j).2.2.1)) &&& 63)) hx hy dX4_madeWord_142 rfl ?_
    refine lv_aload_n hx hy dX4_madeWord_143 rfl (lv_at hl 3 rfl) ?_
    refine lv_iload hx hy dX4_madeWord_144 (lv_at hl 2 rfl) ?_
    refine lv_iload_n hx hy dX4_madeWord_146 rfl (lv_at hl 6 rfl) ?_
    refine lv_iconst (v := nI 1) hx hy dX4_madeWord_147 (by decide) ?_
    by_cases hv32 : v = 0
    · refine lv_isub hx hy dX4_madeWord_148 ?_
      refine tI (show nI v - nI 1 = -1 from by rw [hv32]; decide) ?_
      refine zL hI (xV F hI hl (kX4_wordAt l E (u) ((f j).2.1) (by omega) (-1)) M_X4_45 (rX4 F hI) rfl ⟨Nat.le_of_ble_eq_true rfl, Nat.le_of_ble_eq_true rfl⟩ ⟨Nat.zero_le _, Nat.zero_le _⟩ rfl (Nat.le_of_ble_eq_true rfl) dX4_madeWord_149) (fun r34 v35 H locs hI hp33 => ?_)
      subst hp33
      refine lv_bipush (v := nI 64) hx hy dX4_madeWord_152 (by decide) ?_
      refine lv_iload hx hy dX4_madeWord_154 (lv_at hl 1 rfl) ?_
      refine lv_isub hx hy dX4_madeWord_156 ?_
      refine tI (pk_sub (a := 64) (b := (f j).2.2.1) (by omega)) ?_
      refine lv_lushr (v := (Int64.toUInt64 (wdE (u.2) ((f j).2.1) (-1)) >>> ((Int32.toInt64 (nI (64 - ((f j).2.2.1)))).toUInt64 &&& Int64.toUInt64 63)).toInt64) hx hy dX4_madeWord_157 rfl ?_
      refine lv_lor hx hy dX4_madeWord_158 ?_
      exact rL hQ F (v := ()) hI dX4_madeWord_159 (fun t ht => mw_6 hok hk13 rfl hD.1 hD.2 ht (fun t ht => hW _ hA v (by omega) t ht) (fun _ => wdE_m1 (by omega)) (fun w hw => absurd hw (by omega)))
    · refine lv_isub hx hy dX4_madeWord_148 ?_
      refine tI (pk_sub (a := v) (b := 1) (by omega)) ?_
      refine zL hI (xV F hI hl (kX4_wordAt l E (u) ((f j).2.1) (by omega) (nI (v - 1))) M_X4_45 (rX4 F hI) rfl ⟨Nat.le_of_ble_eq_true rfl, Nat.le_of_ble_eq_true rfl⟩ ⟨Nat.zero_le _, Nat.zero_le _⟩ rfl (Nat.le_of_ble_eq_true rfl) dX4_madeWord_149) (fun r37 v38 H locs hI hp36 => ?_)
      rw [wdE_in (by omega) (by omega)] at hp36
      subst hp36
      refine lv_bipush (v := nI 64) hx hy dX4_madeWord_152 (by decide) ?_
      refine lv_iload hx hy dX4_madeWord_154 (lv_at hl 1 rfl) ?_
      refine lv_isub hx hy dX4_madeWord_156 ?_
      refine tI (pk_sub (a := 64) (b := (f j).2.2.1) (by omega)) ?_
      refine lv_lushr (v := (Int64.toUInt64 (u.2 ((f j).2.1) (v - 1)) >>> ((Int32.toInt64 (nI (64 - ((f j).2.2.1)))).toUInt64 &&& Int64.toUInt64 63)).toInt64) hx hy dX4_madeWord_157 rfl ?_
      refine lv_lor hx hy dX4_madeWord_158 ?_
      exact rL hQ F (v := ()) hI dX4_madeWord_159 (fun t ht => mw_6 hok hk13 rfl hD.1 hD.2 ht (fun t ht => hW _ hA v (by omega) t ht) (fun e9 => absurd e9 hv32) (fun w hw t ht => by have e9 : v - 1 = w := (by omega); rw [e9]; exact hW _ hA w (by omega) t ht))
set_option maxHeartbeats 400000 in
set_option maxRecDepth 100000 in
theorem kX4_fillSource (l : Launch) (E : EV) (u : SS) (j sh sd w : Nat) (hj : j < 16) (hsh : sh ≤ 256) (hsd : sd < 256) (hw : w ≤ 16) : CT l yX4_fillSource cX4_fillSource 10 none (Rm 1 25) [.ref (eA E 9), .int (nI j), .int (nI sh), .int (nI sd), .int (nI w)] E u (Q_v E (fun g => SrcG g j sh sd w ∧ OthG j u.2 g) (fun (g : GF) => (u.1, g))) := by
  refine mstart RX4 (by decide +kernel) rfl (Nat.le_of_ble_eq_true rfl) ?_
  intro p e s m args below meth co ls Q hQ F hI hl
  have hx := F.1
  have hy := F.2.1
  have hl : lv_has ls 10 [(0, .ref (eA E 9)), (1, .int (nI j)), (2, .int (nI sh)), (3, .int (nI sd)), (4, .int (nI w))] := hl
  refine lv_iload_n hx hy dX4_fillSource_0 rfl (lv_at hl 3 rfl) ?_
  refine lv_istore (lv' := [(5, .int (nI sd)), (0, .ref (eA E 9)), (1, .int (nI j)), (2, .int (nI sh)), (3, .int (nI sd)), (4, .int (nI w))]) hx hy dX4_fillSource_1 hl (by decide) rfl (fun ls hl => ?_)
  refine lv_iconst (v := nI 0) hx hy dX4_fillSource_3 (by decide) ?_
  refine lv_istore (lv' := [(6, .int (nI 0)), (5, .int (nI sd)), (0, .ref (eA E 9)), (1, .int (nI j)), (2, .int (nI sh)), (3, .int (nI sd)), (4, .int (nI w))]) hx hy dX4_fillSource_4 hl (by decide) rfl (fun ls hl => ?_)
  have lp1 : ∀ (fu : Nat) (v : Nat) (g : GF), (v ≤ w) → (w - v < fu) → (SrcG g j sh sd v) → (OthG j u.2 g) →  ∀ (H : Heap) (locs : List Loc) (ls : Array Slot), Iv E s H locs ((u.1, g)) → lv_has ls 10 [(6, .int (nI v)), (5, .int (nI (reg sd (64 * v)))), (0, .ref (eA E 9)), (1, .int (nI j)), (2, .int (nI sh)), (3, .int (nI sd)), (4, .int (nI w))] → W p l e (Rm 1 25) s m args below meth co H locs 0 0 Q (F0 m 6 ls []) := by
    intro fu
    induction fu with
    | zero => intro v g hi hf hG hO; exact absurd hf (Nat.not_lt_zero _)
    | succ fu ih =>
      intro v g hi hf hG hO H locs ls hI hl
      have ih_6 := ih
      refine lv_iload hx hy dX4_fillSource_6 (lv_at hl 0 rfl) ?_
      refine lv_iload hx hy dX4_fillSource_8 (lv_at hl 6 rfl) ?_
      refine lv_icmp_ge (tgt := 69) hx hy dX4_fillSource_10 (by decide) (fun h2 => ?_) (fun h2 => ?_)
      · have h2 : w ≤ v := (nI_leI (a := w) (b := v) (by omega) (by omega)).mp h2
        exact rV hQ F (v := g) hI dX4_fillSource_69 (by have e9 : v = w := (by omega); rw [← e9]; exact ⟨hG, hO⟩)
      · have h2 : v < w := Nat.lt_of_not_le (fun q9 => h2 ((nI_leI (a := w) (b := v) (by omega) (by omega)).mpr q9))
        refine lv_lconst (v := lN 0) hx hy dX4_fillSource_13 (by decide) ?_
        refine lv_lstore (lv' := [(7, .long (lN 0)), (6, .int (nI v)), (5, .int (nI (reg sd (64 * v)))), (0, .ref (eA E 9)), (1, .int (nI j)), (2, .int (nI sh)), (3, .int (nI sd)), (4, .int (nI w))]) hx hy dX4_fillSource_14 hl (by decide) rfl (fun ls hl => ?_)
        refine lv_iconst (v := nI 0) hx hy dX4_fillSource_16 (by decide) ?_
        refine lv_istore (lv' := [(9, .int (nI 0)), (7, .long (lN 0)), (6, .int (nI v)), (5, .int (nI (reg sd (64 * v)))), (0, .ref (eA E 9)), (1, .int (nI j)), (2, .int (nI sh)), (3, .int (nI sd)), (4, .int (nI w))]) hx hy dX4_fillSource_17 hl (by decide) rfl (fun ls hl => ?_)
        have lp3 : ∀ (fu : Nat) (k : Nat) (x : Int64), (k ≤ 64) → (64 - k < fu) → (SrcX x v sh sd k) →  ∀ (H : Heap) (locs : List Loc) (ls : Array Slot), Iv E s H locs ((u.1, g)) → lv_has ls 10 [(9, .int (nI k)), (7, .long (x)), (6, .int (nI v)), (5, .int (nI (reg sd (64 * v + k)))), (0, .ref (eA E 9)), (1, .int (nI j)), (2, .int (nI sh)), (3, .int (nI sd)), (4, .int (nI w))] → W p l e (Rm 1 25) s m args below meth co H locs 0 0 Q (F0 m 19 ls []) := by
          intro fu
          induction fu with
          | zero => intro k x hi2 hf2 hX; exact absurd hf2 (Nat.not_lt_zero _)
          | succ fu ih =>
            intro k x hi2 hf2 hX H locs ls hI hl
            have ih_19 := ih
            refine lv_iload hx hy dX4_fillSource_19 (lv_at hl 0 rfl) ?_
            refine lv_bipush (v := nI 64) hx hy dX4_fillSource_21 (by decide) ?_
            refine lv_icmp_ge (tgt := 54) hx hy dX4_fillSource_23 (by decide) (fun h4 => ?_) (fun h4 => ?_)
            · have h4 : 64 ≤ k := (nI_leI (a := 64) (b := k) (by omega) (by omega)).mp h4
              have e8 : k = 64 := by omega
              have hX8 : SrcX x v sh sd 64 := by rw [← e8]; exact hX
              refine lv_aload_n hx hy dX4_fillSource_54 rfl (lv_at hl 4 rfl) ?_
              refine lv_iload_n hx hy dX4_fillSource_55 rfl (lv_at hl 5 rfl) ?_
              refine lv_iload hx hy dX4_fillSource_56 (lv_at hl 2 rfl) ?_
              refine lv_lload hx hy dX4_fillSource_58 (lv_at hl 1 rfl) ?_
              refine zV hI (xV F hI hl (kX4_setWord l E ((u.1, g)) j v (by omega) (by omega) x) M_X4_38 (rX4 F hI) rfl ⟨Nat.le_of_ble_eq_true rfl, Nat.le_of_ble_eq_true rfl⟩ ⟨Nat.zero_le _, Nat.zero_le _⟩ rfl (Nat.le_of_ble_eq_true rfl) dX4_fillSource_60) (fun v7 H locs hI hp5 => ?_)
              subst hp5
              obtain ⟨g8, eg8⟩ : ∃ z9 : GF, z9 = upG g j v x := ⟨_, rfl⟩
              have hI : Iv E s H locs (u.1, g8) := by rw [eg8]; exact hI
              refine lv_iinc (v := nI (v + 1)) (lv' := [(6, .int (nI (v + 1))), (9, .int (nI k)), (7, .long (x)), (5, .int (nI (reg sd (64 * v + k)))), (0, .ref (eA E 9)), (1, .int (nI j)), (2, .int (nI sh)), (3, .int (nI sd)), (4, .int (nI w))]) hx hy dX4_fillSource_63 hl (k := 2) rfl (nI_add (v) 1) (by decide) rfl (fun ls hl => ?_)
              rw [show 64 * v + k = 64 * (v + 1) from by omega] at hl
              refine lv_goto (tgt := 6) hx hy dX4_fillSource_66 (by decide) ?_
              exact ih_6 (v + 1) g8 (by omega) (by omega) (hG.step hO hX8 eg8).1 (hG.step hO hX8 eg8).2 _ _ _ hI (lv_sub hl [0, 3, 4, 5, 6, 7, 8] rfl)
            · have h4 : k < 64 := Nat.lt_of_not_le (fun q9 => h4 ((nI_leI (a := 64) (b := k) (by omega) (by omega)).mpr q9))
              refine lv_iload hx hy dX4_fillSource_26 (lv_at hl 3 rfl) ?_
              refine lv_iload_n hx hy dX4_fillSource_28 rfl (lv_at hl 6 rfl) ?_
              refine lv_icmp_gt (tgt := 41) hx hy dX4_fillSource_29 (by decide) (fun h9 => ?_) (fun h9 => ?_)
              · have h9 : sh < reg sd (64 * v + k) := (nI_ltI (a := sh) (b := reg sd (64 * v + k)) (by omega) (by have := reg_lt hsd (64 * v + k); omega)).mp h9
                refine lv_iload hx hy dX4_fillSource_41 (lv_at hl 3 rfl) ?_
                refine zI hI (xS F hI hl (kX4_nextRegister l E ((u.1, g)) (reg sd (64 * v + k)) (reg_lt hsd _)) M_X4_42 rfl ⟨Nat.le_of_ble_eq_true rfl, Nat.le_of_ble_eq_true rfl⟩ ⟨Nat.zero_le _, Nat.zero_le _⟩ rfl (Nat.le_of_ble_eq_true rfl) dX4_fillSource_43) (fun r11 v12 H locs hI hp10 => ?_)
                subst hp10
                refine lv_istore (lv' := [(5, .int (nI (nr (reg sd (64 * v + k))))), (9, .int (nI k)), (7, .long (x)), (6, .int (nI v)), (0, .ref (eA E 9)), (1, .int (nI j)), (2, .int (nI sh)), (3, .int (nI sd)), (4, .int (nI w))]) hx hy dX4_fillSource_46 hl (by decide) rfl (fun ls hl => ?_)
                have hl : lv_has ls 10 [(5, .int (nI (reg sd (64 * v + (k + 1))))), (9, .int (nI k)), (7, .long (x)), (6, .int (nI v)), (0, .ref (eA E 9)), (1, .int (nI j)), (2, .int (nI sh)), (3, .int (nI sd)), (4, .int (nI w))] := hl
                refine lv_iinc (v := nI (k + 1)) (lv' := [(9, .int (nI (k + 1))), (5, .int (nI (reg sd (64 * v + (k + 1))))), (7, .long (x)), (6, .int (nI v)), (0, .ref (eA E 9)), (1, .int (nI j)), (2, .int (nI sh)), (3, .int (nI sd)), (4, .int (nI w))]) hx hy dX4_fillSource_48 hl (k := 1) rfl (nI_add (k) 1) (by decide) rfl (fun ls hl => ?_)
                refine lv_goto (tgt := 19) hx hy dX4_fillSource_51 (by decide) ?_
                exact ih_19 (k + 1) (x) (by omega) (by omega) (hX.skip (by omega) (by omega)) _ _ _ hI (lv_sub hl [0, 2, 3, 1, 4, 5, 6, 7, 8] rfl)
              · have h9 : reg sd (64 * v + k) ≤ sh := Nat.le_of_not_lt (fun q9 => h9 ((nI_ltI (a := sh) (b := reg sd (64 * v + k)) (by omega) (by have := reg_lt hsd (64 * v + k); omega)).mpr q9))
                refine lv_lload hx hy dX4_fillSource_32 (lv_at hl 1 rfl) ?_
                refine lv_lconst (v := lN 1) hx hy dX4_fillSource_34 (by decide) ?_
                refine lv_iload hx hy dX4_fillSource_35 (lv_at hl 0 rfl) ?_
                refine lv_lshl (v := (lN 1) <<< (Int32.toInt64 (nI k) &&& 63)) hx hy dX4_fillSource_37 rfl ?_
                refine lv_lor hx hy dX4_fillSource_38 ?_
                refine lv_lstore (lv' := [(7, .long (x ||| ((lN 1) <<< (Int32.toInt64 (nI k) &&& 63)))), (9, .int (nI k)), (6, .int (nI v)), (5, .int (nI (reg sd (64 * v + k)))), (0, .ref (eA E 9)), (1, .int (nI j)), (2, .int (nI sh)), (3, .int (nI sd)), (4, .int (nI w))]) hx hy dX4_fillSource_39 hl (by decide) rfl (fun ls hl => ?_)
                refine lv_iload hx hy dX4_fillSource_41 (lv_at hl 3 rfl) ?_
                refine zI hI (xS F hI hl (kX4_nextRegister l E ((u.1, g)) (reg sd (64 * v + k)) (reg_lt hsd _)) M_X4_42 rfl ⟨Nat.le_of_ble_eq_true rfl, Nat.le_of_ble_eq_true rfl⟩ ⟨Nat.zero_le _, Nat.zero_le _⟩ rfl (Nat.le_of_ble_eq_true rfl) dX4_fillSource_43) (fun r14 v15 H locs hI hp13 => ?_)
                subst hp13
                refine lv_istore (lv' := [(5, .int (nI (nr (reg sd (64 * v + k))))), (7, .long (x ||| ((lN 1) <<< (Int32.toInt64 (nI k) &&& 63)))), (9, .int (nI k)), (6, .int (nI v)), (0, .ref (eA E 9)), (1, .int (nI j)), (2, .int (nI sh)), (3, .int (nI sd)), (4, .int (nI w))]) hx hy dX4_fillSource_46 hl (by decide) rfl (fun ls hl => ?_)
                have hl : lv_has ls 10 [(5, .int (nI (reg sd (64 * v + (k + 1))))), (7, .long (x ||| ((lN 1) <<< (Int32.toInt64 (nI k) &&& 63)))), (9, .int (nI k)), (6, .int (nI v)), (0, .ref (eA E 9)), (1, .int (nI j)), (2, .int (nI sh)), (3, .int (nI sd)), (4, .int (nI w))] := hl
                refine lv_iinc (v := nI (k + 1)) (lv' := [(9, .int (nI (k + 1))), (5, .int (nI (reg sd (64 * v + (k + 1))))), (7, .long (x ||| ((lN 1) <<< (Int32.toInt64 (nI k) &&& 63)))), (6, .int (nI v)), (0, .ref (eA E 9)), (1, .int (nI j)), (2, .int (nI sh)), (3, .int (nI sd)), (4, .int (nI w))]) hx hy dX4_fillSource_48 hl (k := 2) rfl (nI_add (k) 1) (by decide) rfl (fun ls hl => ?_)
                refine lv_goto (tgt := 19) hx hy dX4_fillSource_51 (by decide) ?_
                exact ih_19 (k + 1) (x ||| ((lN 1) <<< (Int32.toInt64 (nI k) &&& 63))) (by omega) (by omega) (hX.set (by omega) h9) _ _ _ hI (lv_sub hl [0, 2, 3, 1, 4, 5, 6, 7, 8] rfl)
        exact lp3 65 0 (lN 0) (by omega) (by omega) (SrcX.start v sh sd) _ _ _ hI (lv_sub hl [0, 1, 2, 3, 4, 5, 6, 7, 8] rfl)
  exact lp1 (w + 1) 0 u.2 (Nat.zero_le _) (by omega) (fun v hv => absurd hv (Nat.not_lt_zero v)) (fun _ _ _ => rfl) _ _ _ hI (lv_sub hl [0, 1, 2, 3, 4, 5, 6] rfl)
set_option maxHeartbeats 400000 in
set_option maxRecDepth 100000 in
theorem kX4_fillRow (l : Launch) (E : EV) (u : SS) {b n : Nat} {f : Nat → Ln} (hb : b < 7) (hR : RepL b u.1 n f) (h16 : n ≤ 16) (j tk w : Nat) (hj : j < n) (hok : LnOk j (f j)) (htk : tk ≤ 1000) (hw : w = (tk + 64 - 1) / 64) (hW : ∀ i, i < j → RowG u.2 f i w) : CT l yX4_fillRow cX4_fillRow 6 none (Rm 3 72) [.ref (eA E 9), .ref (eA E (10 + 3 * b)), .int (nI j), .int (nI tk)] E u (Q_v E (fun g => RowG g f j w ∧ OthG j u.2 g) (fun (g : GF) => (u.1, g))) := by
  refine mstart RX4 (by decide +kernel) rfl (Nat.le_of_ble_eq_true rfl) ?_
  intro p e s m args below meth co ls Q hQ F hI hl
  have hx := F.1
  have hy := F.2.1
  have hl : lv_has ls 6 [(0, .ref (eA E 9)), (1, .ref (eA E (10 + 3 * b))), (2, .int (nI j)), (3, .int (nI tk))] := hl
  have hk6 := hok.1
  have hB9 := hok.2.2.2.2.2.2.1
  have hw16 : w ≤ 16 := by omega
  refine lv_iload_n hx hy dX4_fillRow_0 rfl (lv_at hl 3 rfl) ?_
  refine lv_bipush (v := nI 64) hx hy dX4_fillRow_1 (by decide) ?_
  refine lv_iadd hx hy dX4_fillRow_3 ?_
  refine tI (nI_add (tk) (64)) ?_
  refine lv_iconst (v := nI 1) hx hy dX4_fillRow_4 (by decide) ?_
  refine lv_isub hx hy dX4_fillRow_5 ?_
  refine tI (pk_sub (a := tk + 64) (b := 1) (by omega)) ?_
  refine lv_bipush (v := nI 64) hx hy dX4_fillRow_6 (by decide) ?_
  refine lv_idiv hx hy dX4_fillRow_8 (fun q => absurd ((nI_eq (by omega) (by omega)).mp (show nI (64) = nI 0 from q)) (by omega)) ?_
  refine tI (pk_div (a := (tk + 64) - 1) (d := 64) (by omega) (by omega) (by omega)) ?_
  refine tI (show _ = nI w from by rw [hw]) ?_
  refine lv_istore (lv' := [(4, .int (nI w)), (0, .ref (eA E 9)), (1, .ref (eA E (10 + 3 * b))), (2, .int (nI j)), (3, .int (nI tk))]) hx hy dX4_fillRow_9 hl (by decide) rfl (fun ls hl => ?_)
  refine lv_aload_n hx hy dX4_fillRow_11 rfl (lv_at hl 2 rfl) ?_
  refine lv_iload_n hx hy dX4_fillRow_12 rfl (lv_at hl 3 rfl) ?_
  refine zI hI (xV F hI hl (kX0_kindOf l E (u) (b := b) hb (nI j)) M_X4_20 (rX0 F hI (b := b) hb) rfl ⟨Nat.le_of_ble_eq_true rfl, Nat.le_of_ble_eq_true rfl⟩ ⟨Nat.zero_le _, Nat.zero_le _⟩ rfl (Nat.le_of_ble_eq_true rfl) dX4_fillRow_13) (fun r2 v3 H locs hI hp1 => ?_)
  rw [el_lt (by omega) (by decide)] at hp1
  subst hp1
  refine tI (hR.2 j hj).1 ?_
  refine lv_if_ne (tgt := 39) hx hy dX4_fillRow_16 (by decide) (fun h4 => ?_) (fun h4 => ?_)
  · have h4 : (f j).1 ≠ 0 := fun q9 => h4 ((nI_eq (a := (f j).1) (b := 0) (by omega) (by omega)).mpr q9)
    refine lv_iconst (v := nI 0) hx hy dX4_fillRow_39 (by decide) ?_
    refine lv_istore (lv' := [(5, .int (nI 0)), (4, .int (nI w)), (0, .ref (eA E 9)), (1, .ref (eA E (10 + 3 * b))), (2, .int (nI j)), (3, .int (nI tk))]) hx hy dX4_fillRow_40 hl (by decide) rfl (fun ls hl => ?_)
    have lp5 : ∀ (fu : Nat) (v : Nat) (g : GF), (v ≤ w) → (w - v < fu) → (RowG g f j v) → (OthG j u.2 g) →  ∀ (H : Heap) (locs : List Loc) (ls : Array Slot), Iv E s H locs ((u.1, g)) → lv_has ls 6 [(5, .int (nI v)), (4, .int (nI w)), (0, .ref (eA E 9)), (1, .ref (eA E (10 + 3 * b))), (2, .int (nI j)), (3, .int (nI tk))] → W p l e (Rm 3 72) s m args below meth co H locs 0 0 Q (F0 m 42 ls []) := by
      intro fu
      induction fu with
      | zero => intro v g hi hf hG hO; exact absurd hf (Nat.not_lt_zero _)
      | succ fu ih =>
        intro v g hi hf hG hO H locs ls hI hl
        have ih_42 := ih
        refine lv_iload hx hy dX4_fillRow_42 (lv_at hl 0 rfl) ?_
        refine lv_iload hx hy dX4_fillRow_44 (lv_at hl 1 rfl) ?_
        refine lv_icmp_ge (tgt := 70) hx hy dX4_fillRow_46 (by decide) (fun h6 => ?_) (fun h6 => ?_)
        · have h6 : w ≤ v := (nI_leI (a := w) (b := v) (by omega) (by omega)).mp h6
          exact rV hQ F (v := g) hI dX4_fillRow_70 (by have e9 : v = w := (by omega); rw [← e9]; exact ⟨hG, hO⟩)
        · have h6 : v < w := Nat.lt_of_not_le (fun q9 => h6 ((nI_leI (a := w) (b := v) (by omega) (by omega)).mpr q9))
          refine lv_aload_n hx hy dX4_fillRow_49 rfl (lv_at hl 2 rfl) ?_
          refine lv_iload_n hx hy dX4_fillRow_50 rfl (lv_at hl 4 rfl) ?_
          refine lv_iload hx hy dX4_fillRow_51 (lv_at hl 0 rfl) ?_
          refine lv_aload_n hx hy dX4_fillRow_53 rfl (lv_at hl 2 rfl) ?_
          refine lv_aload_n hx hy dX4_fillRow_54 rfl (lv_at hl 3 rfl) ?_
          refine lv_iload_n hx hy dX4_fillRow_55 rfl (lv_at hl 4 rfl) ?_
          refine lv_iload hx hy dX4_fillRow_56 (lv_at hl 0 rfl) ?_
          refine zL hI (xV F hI hl (kX4_madeWord l E ((u.1, g)) (b := b) (n := n) (f := f) hb hR h16 j v hj hok (by omega) (by omega) (fun i hi => ((hW i hi).keep hO (by omega)).less (by omega))) M_X4_34 (rX4 F hI) rfl ⟨Nat.le_of_ble_eq_true rfl, Nat.le_of_ble_eq_true rfl⟩ ⟨Nat.zero_le _, Nat.zero_le _⟩ rfl (Nat.le_of_ble_eq_true rfl) dX4_fillRow_58) (fun r8 v9 H locs hI hp7 => ?_)
          refine zV hI (xV F hI hl (kX4_setWord l E ((u.1, g)) j v (by omega) (by omega) r8) M_X4_38 (rX4 F hI) rfl ⟨Nat.le_of_ble_eq_true rfl, Nat.le_of_ble_eq_true rfl⟩ ⟨Nat.zero_le _, Nat.zero_le _⟩ rfl (Nat.le_of_ble_eq_true rfl) dX4_fillRow_61) (fun v12 H locs hI hp10 => ?_)
          subst hp10
          obtain ⟨g13, eg13⟩ : ∃ z9 : GF, z9 = upG g j v r8 := ⟨_, rfl⟩
          have hI : Iv E s H locs (u.1, g13) := by rw [eg13]; exact hI
          refine lv_iinc (v := nI (v + 1)) (lv' := [(5, .int (nI (v + 1))), (4, .int (nI w)), (0, .ref (eA E 9)), (1, .ref (eA E (10 + 3 * b))), (2, .int (nI j)), (3, .int (nI tk))]) hx hy dX4_fillRow_64 hl (k := 0) rfl (nI_add (v) 1) (by decide) rfl (fun ls hl => ?_)
          refine lv_goto (tgt := 42) hx hy dX4_fillRow_67 (by decide) ?_
          exact ih_42 (v + 1) g13 (by omega) (by omega) (hG.step hO hp7 eg13).1 (hG.step hO hp7 eg13).2 _ _ _ hI (lv_sub hl [0, 1, 2, 3, 4, 5] rfl)
    exact lp5 (w + 1) 0 u.2 (Nat.zero_le _) (by omega) (fun v hv => absurd hv (Nat.not_lt_zero v)) (fun _ _ _ => rfl) _ _ _ hI (lv_sub hl [0, 1, 2, 3, 4, 5] rfl)
  · have h4 : (f j).1 = 0 := (nI_eq (a := (f j).1) (b := 0) (by omega) (by omega)).mp h4
    refine lv_aload_n hx hy dX4_fillRow_19 rfl (lv_at hl 1 rfl) ?_
    refine lv_iload_n hx hy dX4_fillRow_20 rfl (lv_at hl 3 rfl) ?_
    refine lv_aload_n hx hy dX4_fillRow_21 rfl (lv_at hl 2 rfl) ?_
    refine lv_iload_n hx hy dX4_fillRow_22 rfl (lv_at hl 3 rfl) ?_
    refine lv_iconst (v := nI 1) hx hy dX4_fillRow_23 (by decide) ?_
    refine zI hI (xV F hI hl (kX0_numberOf l E (u) (b := b) hb (nI j) (nI 1)) M_X4_26 (rX0 F hI (b := b) hb) rfl ⟨Nat.le_of_ble_eq_true rfl, Nat.le_of_ble_eq_true rfl⟩ ⟨Nat.zero_le _, Nat.zero_le _⟩ rfl (Nat.le_of_ble_eq_true rfl) dX4_fillRow_24) (fun r15 v16 H locs hI hp14 => ?_)
    rw [show nI j * nI 3 + nI 1 - nI 1 = nI (3 * j) from ix3 j 0, el_lt (by omega) (by decide)] at hp14
    subst hp14
    refine tI (hR.2 j hj).2.1 ?_
    refine lv_aload_n hx hy dX4_fillRow_27 rfl (lv_at hl 2 rfl) ?_
    refine lv_iload_n hx hy dX4_fillRow_28 rfl (lv_at hl 3 rfl) ?_
    refine lv_iconst (v := nI 2) hx hy dX4_fillRow_29 (by decide) ?_
    refine zI hI (xV F hI hl (kX0_numberOf l E (u) (b := b) hb (nI j) (nI 2)) M_X4_26 (rX0 F hI (b := b) hb) rfl ⟨Nat.le_of_ble_eq_true rfl, Nat.le_of_ble_eq_true rfl⟩ ⟨Nat.zero_le _, Nat.zero_le _⟩ rfl (Nat.le_of_ble_eq_true rfl) dX4_fillRow_30) (fun r18 v19 H locs hI hp17 => ?_)
    rw [show nI j * nI 3 + nI 2 - nI 1 = nI (3 * j + 1) from ix3 j 1, el_lt (by omega) (by decide)] at hp17
    subst hp17
    refine tI (hR.2 j hj).2.2.1 ?_
    refine lv_iload hx hy dX4_fillRow_33 (lv_at hl 0 rfl) ?_
    refine zV hI (xV F hI hl (kX4_fillSource l E (u) j ((f j).2.1) ((f j).2.2.1) w (by omega) (hok.2.1 (by omega)).1 (by have := (hok.2.1 (by omega)).2.2; omega) hw16) M_X4_30 (rX4 F hI) rfl ⟨Nat.le_of_ble_eq_true rfl, Nat.le_of_ble_eq_true rfl⟩ ⟨Nat.zero_le _, Nat.zero_le _⟩ rfl (Nat.le_of_ble_eq_true rfl) dX4_fillRow_35) (fun v22 H locs hI hp20 => ?_)
    exact rV hQ F (v := v22) hI dX4_fillRow_38 ⟨fun v hv t ht => by rw [hp20.1 v hv t ht, bt_0 hok (by omega)], hp20.2⟩
set_option maxHeartbeats 400000 in
set_option maxRecDepth 100000 in
theorem kX4_fill (l : Launch) (E : EV) (u : SS) {b n : Nat} {f : Nat → Ln} (hb : b < 7) (hR : RepL b u.1 n f) (h16 : n ≤ 16) (hok : ∀ j, j < n → LnOk j (f j)) (la : Int32) (k tk w : Nat) (hla : la = nI k - 1) (hk : k ≤ n) (htk : tk ≤ 1000) (hw : w = (tk + 64 - 1) / 64) : CT l yX4_fill cX4_fill 5 none (Rm 4 97) [.ref (eA E 9), .ref (eA E (10 + 3 * b)), .int (la), .int (nI tk)] E u (Q_v E (fun g => ∀ i, i < k → RowG g f i w) (fun (g : GF) => (u.1, g))) := by
  refine mstart RX4 (by decide +kernel) rfl (Nat.le_of_ble_eq_true rfl) ?_
  intro p e s m args below meth co ls Q hQ F hI hl
  have hx := F.1
  have hy := F.2.1
  have hl : lv_has ls 5 [(0, .ref (eA E 9)), (1, .ref (eA E (10 + 3 * b))), (2, .int (la)), (3, .int (nI tk))] := hl
  refine lv_iconst (v := nI 0) hx hy dX4_fill_0 (by decide) ?_
  refine lv_istore (lv' := [(4, .int (nI 0)), (0, .ref (eA E 9)), (1, .ref (eA E (10 + 3 * b))), (2, .int (la)), (3, .int (nI tk))]) hx hy dX4_fill_1 hl (by decide) rfl (fun ls hl => ?_)
  have lp1 : ∀ (fu : Nat) (i : Nat) (g : GF), (i ≤ k) → (k - i < fu) → (∀ a, a < i → RowG g f a w) →  ∀ (H : Heap) (locs : List Loc) (ls : Array Slot), Iv E s H locs ((u.1, g)) → lv_has ls 5 [(4, .int (nI i)), (0, .ref (eA E 9)), (1, .ref (eA E (10 + 3 * b))), (2, .int (la)), (3, .int (nI tk))] → W p l e (Rm 4 97) s m args below meth co H locs 0 0 Q (F0 m 3 ls []) := by
    intro fu
    induction fu with
    | zero => intro i g hi hf hG; exact absurd hf (Nat.not_lt_zero _)
    | succ fu ih =>
      intro i g hi hf hG H locs ls hI hl
      have ih_3 := ih
      refine lv_iload hx hy dX4_fill_3 (lv_at hl 0 rfl) ?_
      refine lv_iload_n hx hy dX4_fill_5 rfl (lv_at hl 3 rfl) ?_
      refine lv_icmp_gt (tgt := 30) hx hy dX4_fill_6 (by decide) (fun h2 => ?_) (fun h2 => ?_)
      · exact rV hQ F (v := g) hI dX4_fill_30 (fun a ha => hG a (by have := la_ge hla (by omega) (by omega) h2; omega))
      · have hik : i < k := la_lt hla (by omega) (by omega) h2
        refine lv_iload hx hy dX4_fill_9 (lv_at hl 0 rfl) ?_
        refine lv_bipush (v := nI 16) hx hy dX4_fill_11 (by decide) ?_
        refine lv_icmp_ge (tgt := 30) hx hy dX4_fill_13 (by decide) (fun h3 => ?_) (fun h3 => ?_)
        · have h3 : 16 ≤ i := (nI_leI (a := 16) (b := i) (by omega) (by omega)).mp h3
          exact absurd h3 (by omega)
        · have h3 : i < 16 := Nat.lt_of_not_le (fun q9 => h3 ((nI_leI (a := 16) (b := i) (by omega) (by omega)).mpr q9))
          refine lv_aload_n hx hy dX4_fill_16 rfl (lv_at hl 1 rfl) ?_
          refine lv_aload_n hx hy dX4_fill_17 rfl (lv_at hl 2 rfl) ?_
          refine lv_iload hx hy dX4_fill_18 (lv_at hl 0 rfl) ?_
          refine lv_iload_n hx hy dX4_fill_20 rfl (lv_at hl 4 rfl) ?_
          refine zV hI (xV F hI hl (kX4_fillRow l E ((u.1, g)) (b := b) (n := n) (f := f) hb hR h16 i tk w (by omega) (hok i (by omega)) htk hw hG) M_X4_16 (rX4 F hI) rfl ⟨Nat.le_of_ble_eq_true rfl, Nat.le_of_ble_eq_true rfl⟩ ⟨Nat.zero_le _, Nat.zero_le _⟩ rfl (Nat.le_of_ble_eq_true rfl) dX4_fill_21) (fun v6 H locs hI hp4 => ?_)
          refine lv_iinc (v := nI (i + 1)) (lv' := [(4, .int (nI (i + 1))), (0, .ref (eA E 9)), (1, .ref (eA E (10 + 3 * b))), (2, .int (la)), (3, .int (nI tk))]) hx hy dX4_fill_24 hl (k := 0) rfl (nI_add (i) 1) (by decide) rfl (fun ls hl => ?_)
          refine lv_goto (tgt := 3) hx hy dX4_fill_27 (by decide) ?_
          exact ih_3 (i + 1) v6 (by omega) (by omega) (fun a ha => by rcases Nat.lt_or_ge a i with q9 | q9; exact (hG a q9).keep hp4.2 (by omega); rw [show a = i from by omega]; exact hp4.1) _ _ _ hI (lv_sub hl [0, 1, 2, 3, 4] rfl)
  exact lp1 (k + 1) 0 u.2 (Nat.zero_le _) (by omega) (fun v hv => absurd hv (Nat.not_lt_zero v)) _ _ _ hI (lv_sub hl [0, 1, 2, 3, 4] rfl)
