set_option maxHeartbeats 400000 in
set_option maxRecDepth 100000 in
theorem kL_isLine_1 (l : Launch) (E : EV) (u : SS) {X : XS} (hC : RepC u.1 X) (hX : XOk X) (jj kk : Nat) (x : Int32) (hj : jj < X.1.1) (hkk : kk < X.1.1) (hk : (X.1.2.2 jj).1 = 1) : CT l yL_isLine cL_isLine 16 (some .boolean) (Rm 8 186) [.ref (eA E 0), .int (nI jj), .int (nI kk), .int (x)] E u (Q_i E (fun r v => r = 1 ∧ RepC v.1 X) (fun (v : SS) => v)) := by
  refine mstart RL (by decide +kernel) rfl (Nat.le_of_ble_eq_true rfl) ?_
  intro p e s m args below meth co ls Q hQ F hI hl
  have hx := F.1
  have hy := F.2.1
  have hl : lv_has ls 16 [(0, .ref (eA E 0)), (1, .int (nI jj)), (2, .int (nI kk)), (3, .int (x))] := hl
  have hn16 := hX.1.1
  have hl1 := hX.1.2.1
  have hl2 := hX.1.2.2.1
  have hok := hX.1.2.2.2
  have hq := hok jj hj
  have ho1 := hq.2.2.1 (by omega)
  have ho2 := hq.2.2.2.1 (by omega) (by omega)
  have hexl := ex_le hok jj hj
  have hcl := cnt_le X.1.2.2 jj X.1.2.1
  have hog := og_count hok hn16 hj
  have hdp := (fun q9 => absurd ((dp_zero hq).mp q9) (by omega) : dp X.1.2.2 jj ≠ 0)
  have hdm := mxN_ge (g := dp X.1.2.2) hj
  have hdl := dp_le hok jj hj
  have hdx := mxN_le (g := dp X.1.2.2) (k := 16) X.1.1 (fun i hi => Nat.le_trans (dp_le hok i hi) (by omega))
  have hfc := fb_ct_le (fun j => decide ((X.1.2.2 j).1 = 0)) X.1.1
  have hsl := sh_le X.1.2.2 jj X.1.2.1
  have hlast : lastF X.1.2.2 jj (errN X.1.2.2 jj 1000) 1000 ≤ 999 := by rw [show (1000 : Nat) = 999 + 1 from rfl, lastF_self]; exact lastF_le _ _ _ 999
  have her := errN_le (t := 1000) hexl
  have her2 := errN_le (t := X.1.2.1) hexl
  refine lv_aload_n hx hy dL_isLine_0 rfl (lv_at hl 0 rfl) ?_
  refine lv_iconst (v := nI 1) hx hy dL_isLine_1 (by decide) ?_
  refine zI hI (xV F hI hl (kX5_count l E (u) (X := X) hC hX (nI 1)) M_L_9 (rX5 F hI) rfl ⟨Nat.le_of_ble_eq_true rfl, Nat.le_of_ble_eq_true rfl⟩ ⟨Nat.zero_le _, Nat.zero_le _⟩ rfl (Nat.le_of_ble_eq_true rfl) dL_isLine_2) (fun r2 v3 H locs hI hp1 => ?_)
  obtain ⟨hq4, hC5⟩ := q_count hp1 (by decide)
  refine tI (show _ = nI (X.1.2.1) from hq4) ?_
  refine lv_istore (lv' := [(4, .int (nI (X.1.2.1))), (0, .ref (eA E 0)), (1, .int (nI jj)), (2, .int (nI kk)), (3, .int (x))]) hx hy dL_isLine_5 hl (by decide) rfl (fun ls hl => ?_)
  refine lv_aload_n hx hy dL_isLine_7 rfl (lv_at hl 1 rfl) ?_
  refine lv_iload_n hx hy dL_isLine_8 rfl (lv_at hl 2 rfl) ?_
  refine lv_iconst (v := nI 0) hx hy dL_isLine_9 (by decide) ?_
  refine zI hI (xV F hI hl (kX5_line l E (v3) (X := X) hC5 hX (nI jj) (nI 0)) M_L_36 (rX5 F hI) rfl ⟨Nat.le_of_ble_eq_true rfl, Nat.le_of_ble_eq_true rfl⟩ ⟨Nat.zero_le _, Nat.zero_le _⟩ rfl (Nat.le_of_ble_eq_true rfl) dL_isLine_10) (fun r7 v8 H locs hI hp6 => ?_)
  obtain ⟨hq9, hC10⟩ := q_line hp6 hX (by omega) (by decide)
  refine tI (show _ = nI 1 from hq9.trans (congrArg nI hk)) ?_
  refine lv_istore (lv' := [(5, .int (nI 1)), (4, .int (nI (X.1.2.1))), (0, .ref (eA E 0)), (1, .int (nI jj)), (2, .int (nI kk)), (3, .int (x))]) hx hy dL_isLine_13 hl (by decide) rfl (fun ls hl => ?_)
  refine lv_aload_n hx hy dL_isLine_15 rfl (lv_at hl 2 rfl) ?_
  refine lv_iload_n hx hy dL_isLine_16 rfl (lv_at hl 3 rfl) ?_
  refine lv_iconst (v := nI 1) hx hy dL_isLine_17 (by decide) ?_
  refine zI hI (xV F hI hl (kX5_line l E (v8) (X := X) hC10 hX (nI jj) (nI 1)) M_L_36 (rX5 F hI) rfl ⟨Nat.le_of_ble_eq_true rfl, Nat.le_of_ble_eq_true rfl⟩ ⟨Nat.zero_le _, Nat.zero_le _⟩ rfl (Nat.le_of_ble_eq_true rfl) dL_isLine_18) (fun r12 v13 H locs hI hp11 => ?_)
  obtain ⟨hq14, hC15⟩ := q_line hp11 hX (by omega) (by decide)
  refine tI (show _ = nI ((X.1.2.2 jj).2.1) from hq14.trans (tel_1 hk)) ?_
  refine lv_istore (lv' := [(6, .int (nI ((X.1.2.2 jj).2.1))), (5, .int (nI 1)), (4, .int (nI (X.1.2.1))), (0, .ref (eA E 0)), (1, .int (nI jj)), (2, .int (nI kk)), (3, .int (x))]) hx hy dL_isLine_21 hl (by decide) rfl (fun ls hl => ?_)
  refine lv_aload_n hx hy dL_isLine_23 rfl (lv_at hl 3 rfl) ?_
  refine lv_iload_n hx hy dL_isLine_24 rfl (lv_at hl 4 rfl) ?_
  refine lv_iconst (v := nI 2) hx hy dL_isLine_25 (by decide) ?_
  refine zI hI (xV F hI hl (kX5_line l E (v13) (X := X) hC15 hX (nI jj) (nI 2)) M_L_36 (rX5 F hI) rfl ⟨Nat.le_of_ble_eq_true rfl, Nat.le_of_ble_eq_true rfl⟩ ⟨Nat.zero_le _, Nat.zero_le _⟩ rfl (Nat.le_of_ble_eq_true rfl) dL_isLine_26) (fun r17 v18 H locs hI hp16 => ?_)
  obtain ⟨hq19, hC20⟩ := q_line hp16 hX (by omega) (by decide)
  refine tI (show _ = nI ((X.1.2.2 jj).2.2.1) from hq19.trans (tel_2 hk)) ?_
  refine lv_istore (lv' := [(7, .int (nI ((X.1.2.2 jj).2.2.1))), (6, .int (nI ((X.1.2.2 jj).2.1))), (5, .int (nI 1)), (4, .int (nI (X.1.2.1))), (0, .ref (eA E 0)), (1, .int (nI jj)), (2, .int (nI kk)), (3, .int (x))]) hx hy dL_isLine_29 hl (by decide) rfl (fun ls hl => ?_)
  refine lv_aload_n hx hy dL_isLine_31 rfl (lv_at hl 4 rfl) ?_
  refine lv_iload_n hx hy dL_isLine_32 rfl (lv_at hl 5 rfl) ?_
  refine lv_iconst (v := nI 3) hx hy dL_isLine_33 (by decide) ?_
  refine zI hI (xV F hI hl (kX5_line l E (v18) (X := X) hC20 hX (nI jj) (nI 3)) M_L_36 (rX5 F hI) rfl ⟨Nat.le_of_ble_eq_true rfl, Nat.le_of_ble_eq_true rfl⟩ ⟨Nat.zero_le _, Nat.zero_le _⟩ rfl (Nat.le_of_ble_eq_true rfl) dL_isLine_34) (fun r22 v23 H locs hI hp21 => ?_)
  obtain ⟨hq24, hC25⟩ := q_line hp21 hX (by omega) (by decide)
  refine tI (show _ = (-100000005) from hq24.trans (tel_3n hk)) ?_
  refine lv_istore (lv' := [(8, .int ((-100000005))), (7, .int (nI ((X.1.2.2 jj).2.2.1))), (6, .int (nI ((X.1.2.2 jj).2.1))), (5, .int (nI 1)), (4, .int (nI (X.1.2.1))), (0, .ref (eA E 0)), (1, .int (nI jj)), (2, .int (nI kk)), (3, .int (x))]) hx hy dL_isLine_37 hl (by decide) rfl (fun ls hl => ?_)
  refine lv_aload_n hx hy dL_isLine_39 rfl (lv_at hl 5 rfl) ?_
  refine lv_iload_n hx hy dL_isLine_40 rfl (lv_at hl 6 rfl) ?_
  refine lv_iconst (v := nI 4) hx hy dL_isLine_41 (by decide) ?_
  refine zI hI (xV F hI hl (kX5_line l E (v23) (X := X) hC25 hX (nI jj) (nI 4)) M_L_36 (rX5 F hI) rfl ⟨Nat.le_of_ble_eq_true rfl, Nat.le_of_ble_eq_true rfl⟩ ⟨Nat.zero_le _, Nat.zero_le _⟩ rfl (Nat.le_of_ble_eq_true rfl) dL_isLine_42) (fun r27 v28 H locs hI hp26 => ?_)
  obtain ⟨hq29, hC30⟩ := q_line hp26 hX (by omega) (by decide)
  refine tI (show _ = nI (cnt X.1.2.2 jj X.1.2.1) from hq29) ?_
  refine lv_istore (lv' := [(9, .int (nI (cnt X.1.2.2 jj X.1.2.1))), (8, .int ((-100000005))), (7, .int (nI ((X.1.2.2 jj).2.2.1))), (6, .int (nI ((X.1.2.2 jj).2.1))), (5, .int (nI 1)), (4, .int (nI (X.1.2.1))), (0, .ref (eA E 0)), (1, .int (nI jj)), (2, .int (nI kk)), (3, .int (x))]) hx hy dL_isLine_45 hl (by decide) rfl (fun ls hl => ?_)
  refine lv_aload_n hx hy dL_isLine_47 rfl (lv_at hl 6 rfl) ?_
  refine lv_iload_n hx hy dL_isLine_48 rfl (lv_at hl 7 rfl) ?_
  refine lv_iconst (v := nI 5) hx hy dL_isLine_49 (by decide) ?_
  refine zI hI (xV F hI hl (kX5_line l E (v28) (X := X) hC30 hX (nI jj) (nI 5)) M_L_36 (rX5 F hI) rfl ⟨Nat.le_of_ble_eq_true rfl, Nat.le_of_ble_eq_true rfl⟩ ⟨Nat.zero_le _, Nat.zero_le _⟩ rfl (Nat.le_of_ble_eq_true rfl) dL_isLine_50) (fun r32 v33 H locs hI hp31 => ?_)
  obtain ⟨hq34, hC35⟩ := q_line hp31 hX (by omega) (by decide)
  refine tI (show _ = nI (cnt X.1.2.2 jj X.1.2.1 * 65536 / X.1.2.1) from hq34) ?_
  refine lv_istore (lv' := [(10, .int (nI (cnt X.1.2.2 jj X.1.2.1 * 65536 / X.1.2.1))), (9, .int (nI (cnt X.1.2.2 jj X.1.2.1))), (8, .int ((-100000005))), (7, .int (nI ((X.1.2.2 jj).2.2.1))), (6, .int (nI ((X.1.2.2 jj).2.1))), (5, .int (nI 1)), (4, .int (nI (X.1.2.1))), (0, .ref (eA E 0)), (1, .int (nI jj)), (2, .int (nI kk)), (3, .int (x))]) hx hy dL_isLine_53 hl (by decide) rfl (fun ls hl => ?_)
  refine lv_aload_n hx hy dL_isLine_55 rfl (lv_at hl 7 rfl) ?_
  refine lv_iload_n hx hy dL_isLine_56 rfl (lv_at hl 8 rfl) ?_
  refine lv_bipush (v := nI 6) hx hy dL_isLine_57 (by decide) ?_
  refine zI hI (xV F hI hl (kX5_line l E (v33) (X := X) hC35 hX (nI jj) (nI 6)) M_L_36 (rX5 F hI) rfl ⟨Nat.le_of_ble_eq_true rfl, Nat.le_of_ble_eq_true rfl⟩ ⟨Nat.zero_le _, Nat.zero_le _⟩ rfl (Nat.le_of_ble_eq_true rfl) dL_isLine_59) (fun r37 v38 H locs hI hp36 => ?_)
  obtain ⟨hq39, hC40⟩ := q_line hp36 hX (by omega) (by decide)
  refine tI (show _ = nI (ex X.1.2.2 jj) from hq39) ?_
  refine lv_istore (lv' := [(11, .int (nI (ex X.1.2.2 jj))), (10, .int (nI (cnt X.1.2.2 jj X.1.2.1 * 65536 / X.1.2.1))), (9, .int (nI (cnt X.1.2.2 jj X.1.2.1))), (8, .int ((-100000005))), (7, .int (nI ((X.1.2.2 jj).2.2.1))), (6, .int (nI ((X.1.2.2 jj).2.1))), (5, .int (nI 1)), (4, .int (nI (X.1.2.1))), (0, .ref (eA E 0)), (1, .int (nI jj)), (2, .int (nI kk)), (3, .int (x))]) hx hy dL_isLine_62 hl (by decide) rfl (fun ls hl => ?_)
  refine lv_iload hx hy dL_isLine_64 (lv_at hl 2 rfl) ?_
  refine lv_if_lt (tgt := 225) hx hy dL_isLine_66 (by decide) (fun q => absurd q (nI_nn (by omega))) (fun h41 => ?_)
  refine lv_iload hx hy dL_isLine_69 (lv_at hl 2 rfl) ?_
  refine lv_iload hx hy dL_isLine_71 (lv_at hl 7 rfl) ?_
  refine lv_icmp_gt (tgt := 225) hx hy dL_isLine_73 (by decide) (fun q => absurd q (nI_ngtL (by omega) (by omega))) (fun h42 => ?_)
  refine lv_iload hx hy dL_isLine_76 (lv_at hl 1 rfl) ?_
  refine lv_iload hx hy dL_isLine_78 (lv_at hl 2 rfl) ?_
  refine lv_i2l (v := lN (cnt X.1.2.2 jj X.1.2.1)) hx hy dL_isLine_80 (nI_l (by omega)) ?_
  refine zcl F K_L_70 dL_isLine_81 ?_
  refine tL (show _ = lN 65536 from rfl) ?_
  refine lv_lmul hx hy dL_isLine_84 ?_
  refine tL (lN_mul (cnt X.1.2.2 jj X.1.2.1) (65536)) ?_
  refine lv_iload hx hy dL_isLine_85 (lv_at hl 7 rfl) ?_
  refine lv_i2l (v := lN (X.1.2.1)) hx hy dL_isLine_87 (nI_l (by omega)) ?_
  refine lv_ldiv hx hy dL_isLine_88 (lN_nz hl1 hl2) ?_
  refine tL (pk_lDiv (a := (cnt X.1.2.2 jj X.1.2.1) * 65536) (b := X.1.2.1) (by omega) (by omega) (by omega)) ?_
  refine lv_l2i (v := nI (((cnt X.1.2.2 jj X.1.2.1) * 65536) / (X.1.2.1))) hx hy dL_isLine_89 (lN_i (((cnt X.1.2.2 jj X.1.2.1) * 65536) / (X.1.2.1))) ?_
  refine lv_icmp_ne (tgt := 225) hx hy dL_isLine_90 (by decide) (fun q => absurd rfl q) (fun h43 => ?_)
  refine lv_iload hx hy dL_isLine_93 (lv_at hl 0 rfl) ?_
  refine lv_if_lt (tgt := 225) hx hy dL_isLine_95 (by decide) (fun q => absurd q (nI_nn (by omega))) (fun h44 => ?_)
  refine lv_iload hx hy dL_isLine_98 (lv_at hl 0 rfl) ?_
  refine zc F K_L_63 dL_isLine_100 ?_
  refine tI (show _ = nI 65536 from rfl) ?_
  refine lv_icmp_gt (tgt := 225) hx hy dL_isLine_102 (by decide) (fun q => absurd q (nI_ngtL (by omega) (by omega))) (fun h45 => ?_)
  refine lv_aload_n hx hy dL_isLine_105 rfl (lv_at hl 8 rfl) ?_
  refine lv_iload_n hx hy dL_isLine_106 rfl (lv_at hl 9 rfl) ?_
  refine lv_bipush (v := nI 7) hx hy dL_isLine_107 (by decide) ?_
  refine zI hI (xV F hI hl (kX5_line l E (v38) (X := X) hC40 hX (nI jj) (nI 7)) M_L_36 (rX5 F hI) rfl ⟨Nat.le_of_ble_eq_true rfl, Nat.le_of_ble_eq_true rfl⟩ ⟨Nat.zero_le _, Nat.zero_le _⟩ rfl (Nat.le_of_ble_eq_true rfl) dL_isLine_109) (fun r47 v48 H locs hI hp46 => ?_)
  obtain ⟨hq49, hC50⟩ := q_line hp46 hX (by omega) (by decide)
  refine tI (show _ = nI (errN X.1.2.2 jj X.1.2.1) from hq49) ?_
  refine lv_iload hx hy dL_isLine_112 (lv_at hl 1 rfl) ?_
  refine lv_iload hx hy dL_isLine_114 (lv_at hl 0 rfl) ?_
  suffices k132 : W p l e (Rm 8 186) s m args below meth co H locs 0 0 Q (F0 m 132 ls [.int (nI (errN X.1.2.2 jj X.1.2.1)), .int (nI (errN X.1.2.2 jj X.1.2.1))]) by
    refine lv_icmp_le (tgt := 127) hx hy dL_isLine_116 (by decide) (fun h51 => ?_) (fun h51 => ?_)
    · have h51 : cnt X.1.2.2 jj X.1.2.1 * 65536 / X.1.2.1 ≤ ex X.1.2.2 jj := (nI_leI (a := cnt X.1.2.2 jj X.1.2.1 * 65536 / X.1.2.1) (b := ex X.1.2.2 jj) (by omega) (by omega)).mp h51
      refine lv_iload hx hy dL_isLine_127 (lv_at hl 0 rfl) ?_
      refine lv_iload hx hy dL_isLine_129 (lv_at hl 1 rfl) ?_
      refine lv_isub hx hy dL_isLine_131 ?_
      refine tI (pk_sub (a := ex X.1.2.2 jj) (b := cnt X.1.2.2 jj X.1.2.1 * 65536 / X.1.2.1) (by omega)) ?_
      refine tI (show nI ((ex X.1.2.2 jj) - (cnt X.1.2.2 jj X.1.2.1 * 65536 / X.1.2.1)) = nI (errN X.1.2.2 jj X.1.2.1) from congrArg nI (apt_le2 h51)) ?_
      exact k132
    · have h51 : ex X.1.2.2 jj < cnt X.1.2.2 jj X.1.2.1 * 65536 / X.1.2.1 := Nat.lt_of_not_le (fun q9 => h51 ((nI_leI (a := cnt X.1.2.2 jj X.1.2.1 * 65536 / X.1.2.1) (b := ex X.1.2.2 jj) (by omega) (by omega)).mpr q9))
      refine lv_iload hx hy dL_isLine_119 (lv_at hl 1 rfl) ?_
      refine lv_iload hx hy dL_isLine_121 (lv_at hl 0 rfl) ?_
      refine lv_isub hx hy dL_isLine_123 ?_
      refine tI (pk_sub (a := cnt X.1.2.2 jj X.1.2.1 * 65536 / X.1.2.1) (b := ex X.1.2.2 jj) (by omega)) ?_
      refine lv_goto (tgt := 132) hx hy dL_isLine_124 (by decide) ?_
      refine tI (show nI ((cnt X.1.2.2 jj X.1.2.1 * 65536 / X.1.2.1) - (ex X.1.2.2 jj)) = nI (errN X.1.2.2 jj X.1.2.1) from congrArg nI (apt_gt h51)) ?_
      exact k132
  refine lv_icmp_ne (tgt := 225) hx hy dL_isLine_132 (by decide) (fun q => absurd rfl q) (fun h52 => ?_)
  refine lv_aload_n hx hy dL_isLine_135 rfl (lv_at hl 8 rfl) ?_
  refine lv_iload_n hx hy dL_isLine_136 rfl (lv_at hl 9 rfl) ?_
  refine lv_iload hx hy dL_isLine_137 (lv_at hl 7 rfl) ?_
  refine zI hI (xV F hI hl (kX5_errorAt l E (v48) (X := X) hC50 hX (nI jj) (nI (X.1.2.1))) M_L_72 (rX5 F hI) rfl ⟨Nat.le_of_ble_eq_true rfl, Nat.le_of_ble_eq_true rfl⟩ ⟨Nat.zero_le _, Nat.zero_le _⟩ rfl (Nat.le_of_ble_eq_true rfl) dL_isLine_139) (fun r54 v55 H locs hI hp53 => ?_)
  obtain ⟨hq56, hC57⟩ := q_errorAt hp53 hX (by omega) (by omega) (by omega)
  refine tI (show _ = nI (errN X.1.2.2 jj (X.1.2.1)) from hq56) ?_
  refine lv_aload_n hx hy dL_isLine_142 rfl (lv_at hl 8 rfl) ?_
  refine lv_iload_n hx hy dL_isLine_143 rfl (lv_at hl 9 rfl) ?_
  refine lv_bipush (v := nI 7) hx hy dL_isLine_144 (by decide) ?_
  refine zI hI (xV F hI hl (kX5_line l E (v55) (X := X) hC57 hX (nI jj) (nI 7)) M_L_36 (rX5 F hI) rfl ⟨Nat.le_of_ble_eq_true rfl, Nat.le_of_ble_eq_true rfl⟩ ⟨Nat.zero_le _, Nat.zero_le _⟩ rfl (Nat.le_of_ble_eq_true rfl) dL_isLine_146) (fun r59 v60 H locs hI hp58 => ?_)
  obtain ⟨hq61, hC62⟩ := q_line hp58 hX (by omega) (by decide)
  refine tI (show _ = nI (errN X.1.2.2 jj X.1.2.1) from hq61) ?_
  refine lv_icmp_ne (tgt := 225) hx hy dL_isLine_149 (by decide) (fun q => absurd rfl q) (fun h63 => ?_)
  refine lv_aload_n hx hy dL_isLine_152 rfl (lv_at hl 8 rfl) ?_
  refine lv_iload_n hx hy dL_isLine_153 rfl (lv_at hl 9 rfl) ?_
  refine lv_bipush (v := nI 9) hx hy dL_isLine_154 (by decide) ?_
  refine zI hI (xV F hI hl (kX5_line l E (v60) (X := X) hC62 hX (nI jj) (nI 9)) M_L_36 (rX5 F hI) rfl ⟨Nat.le_of_ble_eq_true rfl, Nat.le_of_ble_eq_true rfl⟩ ⟨Nat.zero_le _, Nat.zero_le _⟩ rfl (Nat.le_of_ble_eq_true rfl) dL_isLine_156) (fun r65 v66 H locs hI hp64 => ?_)
  obtain ⟨hq67, hC68⟩ := q_line hp64 hX (by omega) (by decide)
  refine tI (show _ = nI (fb_ct (fun t => (og X.1.2.2 jj).testBit t) 32) from hq67) ?_
  refine lv_iconst (v := nI 1) hx hy dL_isLine_159 (by decide) ?_
  refine lv_icmp_lt (tgt := 225) hx hy dL_isLine_160 (by decide) (fun q => absurd q (nI_nltL (by omega) (by omega))) (fun h69 => ?_)
  refine lv_aload_n hx hy dL_isLine_163 rfl (lv_at hl 8 rfl) ?_
  refine lv_iload_n hx hy dL_isLine_164 rfl (lv_at hl 9 rfl) ?_
  refine lv_bipush (v := nI 9) hx hy dL_isLine_165 (by decide) ?_
  refine zI hI (xV F hI hl (kX5_line l E (v66) (X := X) hC68 hX (nI jj) (nI 9)) M_L_36 (rX5 F hI) rfl ⟨Nat.le_of_ble_eq_true rfl, Nat.le_of_ble_eq_true rfl⟩ ⟨Nat.zero_le _, Nat.zero_le _⟩ rfl (Nat.le_of_ble_eq_true rfl) dL_isLine_167) (fun r71 v72 H locs hI hp70 => ?_)
  obtain ⟨hq73, hC74⟩ := q_line hp70 hX (by omega) (by decide)
  refine tI (show _ = nI (fb_ct (fun t => (og X.1.2.2 jj).testBit t) 32) from hq73) ?_
  refine lv_aload_n hx hy dL_isLine_170 rfl (lv_at hl 8 rfl) ?_
  refine lv_iconst (v := nI 2) hx hy dL_isLine_171 (by decide) ?_
  refine zI hI (xV F hI hl (kX5_count l E (v72) (X := X) hC74 hX (nI 2)) M_L_9 (rX5 F hI) rfl ⟨Nat.le_of_ble_eq_true rfl, Nat.le_of_ble_eq_true rfl⟩ ⟨Nat.zero_le _, Nat.zero_le _⟩ rfl (Nat.le_of_ble_eq_true rfl) dL_isLine_172) (fun r76 v77 H locs hI hp75 => ?_)
  obtain ⟨hq78, hC79⟩ := q_count hp75 (by decide)
  refine tI (show _ = nI (fb_ct (fun j => decide ((X.1.2.2 j).1 = 0)) X.1.1) from hq78) ?_
  refine lv_icmp_gt (tgt := 225) hx hy dL_isLine_175 (by decide) (fun q => absurd q (nI_ngtL (by omega) (by omega))) (fun h80 => ?_)
  refine lv_aload_n hx hy dL_isLine_178 rfl (lv_at hl 8 rfl) ?_
  refine lv_iload_n hx hy dL_isLine_179 rfl (lv_at hl 9 rfl) ?_
  refine lv_bipush (v := nI 8) hx hy dL_isLine_180 (by decide) ?_
  refine zI hI (xV F hI hl (kX5_line l E (v77) (X := X) hC79 hX (nI jj) (nI 8)) M_L_36 (rX5 F hI) rfl ⟨Nat.le_of_ble_eq_true rfl, Nat.le_of_ble_eq_true rfl⟩ ⟨Nat.zero_le _, Nat.zero_le _⟩ rfl (Nat.le_of_ble_eq_true rfl) dL_isLine_182) (fun r82 v83 H locs hI hp81 => ?_)
  obtain ⟨hq84, hC85⟩ := q_line hp81 hX (by omega) (by decide)
  refine tI (show _ = nI (dp X.1.2.2 jj) from hq84) ?_
  refine lv_if_ne (tgt := 192) hx hy dL_isLine_185 (by decide) (fun h86 => ?_) (fun q => absurd (show nI (dp X.1.2.2 jj) = nI 0 from q) (fun q9 => hdp ((nI_eq (by omega) (by omega)).mp q9)))
  refine lv_iconst (v := nI 0) hx hy dL_isLine_192 (by decide) ?_
  refine lv_iload hx hy dL_isLine_193 (lv_at hl 6 rfl) ?_
  refine lv_if_ne (tgt := 202) hx hy dL_isLine_195 (by decide) (fun _ => ?_) (fun q => absurd q (by decide))
  refine lv_iconst (v := nI 0) hx hy dL_isLine_202 (by decide) ?_
  refine lv_icmp_ne (tgt := 225) hx hy dL_isLine_203 (by decide) (fun q => absurd q (by decide)) (fun _ => ?_)
  refine lv_aload_n hx hy dL_isLine_206 rfl (lv_at hl 8 rfl) ?_
  refine lv_iload_n hx hy dL_isLine_207 rfl (lv_at hl 9 rfl) ?_
  refine lv_bipush (v := nI 8) hx hy dL_isLine_208 (by decide) ?_
  refine zI hI (xV F hI hl (kX5_line l E (v83) (X := X) hC85 hX (nI jj) (nI 8)) M_L_36 (rX5 F hI) rfl ⟨Nat.le_of_ble_eq_true rfl, Nat.le_of_ble_eq_true rfl⟩ ⟨Nat.zero_le _, Nat.zero_le _⟩ rfl (Nat.le_of_ble_eq_true rfl) dL_isLine_210) (fun r88 v89 H locs hI hp87 => ?_)
  obtain ⟨hq90, hC91⟩ := q_line hp87 hX (by omega) (by decide)
  refine tI (show _ = nI (dp X.1.2.2 jj) from hq90) ?_
  refine lv_aload_n hx hy dL_isLine_213 rfl (lv_at hl 8 rfl) ?_
  refine lv_iconst (v := nI 5) hx hy dL_isLine_214 (by decide) ?_
  refine zI hI (xV F hI hl (kX5_count l E (v89) (X := X) hC91 hX (nI 5)) M_L_9 (rX5 F hI) rfl ⟨Nat.le_of_ble_eq_true rfl, Nat.le_of_ble_eq_true rfl⟩ ⟨Nat.zero_le _, Nat.zero_le _⟩ rfl (Nat.le_of_ble_eq_true rfl) dL_isLine_215) (fun r93 v94 H locs hI hp92 => ?_)
  obtain ⟨hq95, hC96⟩ := q_count hp92 (by decide)
  refine tI (show _ = nI (mxN (dp X.1.2.2) X.1.1) from hq95) ?_
  refine lv_icmp_gt (tgt := 225) hx hy dL_isLine_218 (by decide) (fun q => absurd q (nI_ngtL (by omega) (by omega))) (fun h97 => ?_)
  refine lv_iconst (v := nI 1) hx hy dL_isLine_221 (by decide) ?_
  refine lv_goto (tgt := 226) hx hy dL_isLine_222 (by decide) ?_
  refine lv_istore (lv' := [(12, .int (nI 1)), (11, .int (nI (ex X.1.2.2 jj))), (10, .int (nI (cnt X.1.2.2 jj X.1.2.1 * 65536 / X.1.2.1))), (9, .int (nI (cnt X.1.2.2 jj X.1.2.1))), (8, .int ((-100000005))), (7, .int (nI ((X.1.2.2 jj).2.2.1))), (6, .int (nI ((X.1.2.2 jj).2.1))), (5, .int (nI 1)), (4, .int (nI (X.1.2.1))), (0, .ref (eA E 0)), (1, .int (nI jj)), (2, .int (nI kk)), (3, .int (x))]) hx hy dL_isLine_226 hl (by decide) rfl (fun ls hl => ?_)
  refine lv_iload_n hx hy dL_isLine_228 rfl (lv_at hl 12 rfl) ?_
  refine lv_bipush (v := nI 60) hx hy dL_isLine_229 (by decide) ?_
  refine zI hI (xS F hI hl (kL_up l E (v94) x 60 (by omega) (by omega)) M_L_15 rfl ⟨Nat.le_of_ble_eq_true rfl, Nat.le_of_ble_eq_true rfl⟩ ⟨Nat.zero_le _, Nat.zero_le _⟩ rfl (Nat.le_of_ble_eq_true rfl) dL_isLine_231) (fun r99 v100 H locs hI hp98 => ?_)
  obtain ⟨j101, hj101, hp98⟩ := hp98
  subst hp98
  refine lv_istore (lv' := [(13, .int (nI j101)), (12, .int (nI 1)), (11, .int (nI (ex X.1.2.2 jj))), (10, .int (nI (cnt X.1.2.2 jj X.1.2.1 * 65536 / X.1.2.1))), (9, .int (nI (cnt X.1.2.2 jj X.1.2.1))), (8, .int ((-100000005))), (7, .int (nI ((X.1.2.2 jj).2.2.1))), (6, .int (nI ((X.1.2.2 jj).2.1))), (5, .int (nI 1)), (4, .int (nI (X.1.2.1))), (0, .ref (eA E 0)), (1, .int (nI jj)), (2, .int (nI kk)), (3, .int (x))]) hx hy dL_isLine_234 hl (by decide) rfl (fun ls hl => ?_)
  have lp102 : ∀ (fu : Nat) (tt : Nat) (wv : SS), (tt < 1200) → (1200 - tt < fu) → (RepC wv.1 X) →  ∀ (H : Heap) (locs : List Loc) (ls : Array Slot), Iv E s H locs (wv) → lv_has ls 16 [(13, .int (nI tt)), (12, .int (nI 1)), (0, .ref (eA E 0)), (1, .int (nI jj)), (2, .int (nI kk)), (3, .int (x)), (4, .int (nI (X.1.2.1))), (5, .int (nI 1)), (6, .int (nI ((X.1.2.2 jj).2.1))), (7, .int (nI ((X.1.2.2 jj).2.2.1))), (8, .int ((-100000005)))] → W p l e (Rm 8 186) s m args below meth co H locs 0 0 Q (F0 m 236 ls []) := by
    intro fu
    induction fu with
    | zero => intro tt wv htt hf hCw; exact absurd hf (Nat.not_lt_zero _)
    | succ fu ih =>
      intro tt wv htt hf hCw H locs ls hI hl
      have ih_236 := ih
      refine lv_iload hx hy dL_isLine_236 (lv_at hl 0 rfl) ?_
      refine lv_sipush (v := nI 1000) hx hy dL_isLine_238 (by decide) ?_
      refine lv_icmp_ge (tgt := 529) hx hy dL_isLine_241 (by decide) (fun h103 => ?_) (fun h103 => ?_)
      · have h103 : 1000 ≤ tt := (nI_leI (a := 1000) (b := tt) (by omega) (by omega)).mp h103
        refine lv_aload_n hx hy dL_isLine_529 rfl (lv_at hl 2 rfl) ?_
        refine lv_iload_n hx hy dL_isLine_530 rfl (lv_at hl 3 rfl) ?_
        refine lv_aload_n hx hy dL_isLine_531 rfl (lv_at hl 2 rfl) ?_
        refine lv_iload_n hx hy dL_isLine_532 rfl (lv_at hl 3 rfl) ?_
        refine lv_sipush (v := nI 1000) hx hy dL_isLine_533 (by decide) ?_
        refine zI hI (xV F hI hl (kX5_errorAt l E (wv) (X := X) hCw hX (nI jj) (nI 1000)) M_L_72 (rX5 F hI) rfl ⟨Nat.le_of_ble_eq_true rfl, Nat.le_of_ble_eq_true rfl⟩ ⟨Nat.zero_le _, Nat.zero_le _⟩ rfl (Nat.le_of_ble_eq_true rfl) dL_isLine_536) (fun r105 v106 H locs hI hp104 => ?_)
        obtain ⟨hq107, hC108⟩ := q_errorAt hp104 hX (by omega) (by omega) (by omega)
        refine tI (show _ = nI (errN X.1.2.2 jj 1000) from hq107) ?_
        refine zI hI (xV F hI hl (kX5_settles l E (v106) (X := X) hC108 hX (nI jj) (nI (errN X.1.2.2 jj 1000))) M_L_75 (rX5 F hI) rfl ⟨Nat.le_of_ble_eq_true rfl, Nat.le_of_ble_eq_true rfl⟩ ⟨Nat.zero_le _, Nat.zero_le _⟩ rfl (Nat.le_of_ble_eq_true rfl) dL_isLine_539) (fun r110 v111 H locs hI hp109 => ?_)
        obtain ⟨hq112, hC113⟩ := q_settles hp109 hX (by omega) (errN_le hexl) hlast
        refine tI (show _ = nI (lastF X.1.2.2 jj (errN X.1.2.2 jj 1000) 1000 + 1) from hq112) ?_
        refine lv_istore (lv' := [(13, .int (nI (lastF X.1.2.2 jj (errN X.1.2.2 jj 1000) 1000 + 1))), (12, .int (nI 1)), (0, .ref (eA E 0)), (1, .int (nI jj)), (2, .int (nI kk)), (3, .int (x)), (4, .int (nI (X.1.2.1))), (5, .int (nI 1)), (6, .int (nI ((X.1.2.2 jj).2.1))), (7, .int (nI ((X.1.2.2 jj).2.2.1))), (8, .int ((-100000005)))]) hx hy dL_isLine_542 hl (by decide) rfl (fun ls hl => ?_)
        refine lv_aload_n hx hy dL_isLine_544 rfl (lv_at hl 2 rfl) ?_
        refine lv_iload_n hx hy dL_isLine_545 rfl (lv_at hl 3 rfl) ?_
        refine lv_iload_n hx hy dL_isLine_546 rfl (lv_at hl 4 rfl) ?_
        refine zI hI (xV F hI hl (kX5_overlap l E (v111) (X := X) hC113 hX (nI jj) (nI kk)) M_L_67 (rX5 F hI) rfl ⟨Nat.le_of_ble_eq_true rfl, Nat.le_of_ble_eq_true rfl⟩ ⟨Nat.zero_le _, Nat.zero_le _⟩ rfl (Nat.le_of_ble_eq_true rfl) dL_isLine_547) (fun r115 v116 H locs hI hp114 => ?_)
        obtain ⟨hq117, hC118⟩ := q_overlap hp114 hX (by omega) (by omega)
        refine tI (show _ = ovl X.1.2.2 jj kk X.1.2.1 from hq117) ?_
        refine lv_istore (lv' := [(14, .int (ovl X.1.2.2 jj kk X.1.2.1)), (13, .int (nI (lastF X.1.2.2 jj (errN X.1.2.2 jj 1000) 1000 + 1))), (12, .int (nI 1)), (0, .ref (eA E 0)), (1, .int (nI jj)), (2, .int (nI kk)), (3, .int (x)), (4, .int (nI (X.1.2.1))), (5, .int (nI 1)), (6, .int (nI ((X.1.2.2 jj).2.1))), (7, .int (nI ((X.1.2.2 jj).2.2.1))), (8, .int ((-100000005)))]) hx hy dL_isLine_550 hl (by decide) rfl (fun ls hl => ?_)
        refine lv_iload hx hy dL_isLine_552 (lv_at hl 2 rfl) ?_
        refine lv_if_eq (tgt := 615) hx hy dL_isLine_554 (by decide) (fun q => absurd q (by decide)) (fun _ => ?_)
        refine lv_iload hx hy dL_isLine_557 (lv_at hl 1 rfl) ?_
        refine lv_iconst (v := nI 1) hx hy dL_isLine_559 (by decide) ?_
        refine lv_icmp_lt (tgt := 615) hx hy dL_isLine_560 (by decide) (fun q => absurd q (nI_nltL (by omega) (by omega))) (fun h119 => ?_)
        refine lv_iload hx hy dL_isLine_563 (lv_at hl 1 rfl) ?_
        refine lv_sipush (v := nI 1000) hx hy dL_isLine_565 (by decide) ?_
        refine lv_icmp_gt (tgt := 615) hx hy dL_isLine_568 (by decide) (fun q => absurd q (nI_ngtL (by omega) (by omega))) (fun h120 => ?_)
        refine lv_iload hx hy dL_isLine_571 (lv_at hl 0 rfl) ?_
        refine lv_aload_n hx hy dL_isLine_573 rfl (lv_at hl 3 rfl) ?_
        refine lv_iload_n hx hy dL_isLine_574 rfl (lv_at hl 5 rfl) ?_
        refine lv_iload_n hx hy dL_isLine_575 rfl (lv_at hl 4 rfl) ?_
        refine zI hI (xV F hI hl (kX5_overlap l E (v116) (X := X) hC118 hX (nI kk) (nI jj)) M_L_67 (rX5 F hI) rfl ⟨Nat.le_of_ble_eq_true rfl, Nat.le_of_ble_eq_true rfl⟩ ⟨Nat.zero_le _, Nat.zero_le _⟩ rfl (Nat.le_of_ble_eq_true rfl) dL_isLine_576) (fun r122 v123 H locs hI hp121 => ?_)
        obtain ⟨hq124, hC125⟩ := q_overlap hp121 hX (by omega) (by omega)
        refine tI (show _ = ovl X.1.2.2 kk jj X.1.2.1 from hq124) ?_
        refine lv_icmp_ne (tgt := 615) hx hy dL_isLine_579 (by decide) (fun q => absurd (ovl_comm _ _ _ _) q) (fun h126 => ?_)
        refine lv_iload hx hy dL_isLine_582 (lv_at hl 0 rfl) ?_
        refine lv_sipush (v := nI 16384) hx hy dL_isLine_584 (by decide) ?_
        refine lv_icmp_gt (tgt := 615) hx hy dL_isLine_587 (by decide) (fun q => absurd q (nlt_of (ovl_bnd hl1 hl2).1)) (fun h127 => ?_)
        refine lv_iload hx hy dL_isLine_590 (lv_at hl 0 rfl) ?_
        refine lv_sipush (v := (-16384)) hx hy dL_isLine_592 (by decide) ?_
        refine lv_icmp_lt (tgt := 615) hx hy dL_isLine_595 (by decide) (fun q => absurd q (nlt_of (ovl_bnd hl1 hl2).2)) (fun h128 => ?_)
        refine lv_iload hx hy dL_isLine_598 (lv_at hl 8 rfl) ?_
        refine lv_if_gt (tgt := 611) hx hy dL_isLine_600 (by decide) (fun _ => ?_) (fun q => absurd q (by decide))
        refine lv_iconst (v := nI 1) hx hy dL_isLine_611 (by decide) ?_
        refine lv_goto (tgt := 616) hx hy dL_isLine_612 (by decide) ?_
        exact rZ hQ F (v := v123) rfl hI dL_isLine_616 ⟨rfl, hC125⟩
      · have h103 : tt < 1000 := Nat.lt_of_not_le (fun q9 => h103 ((nI_leI (a := 1000) (b := tt) (by omega) (by omega)).mpr q9))
        refine lv_iload hx hy dL_isLine_244 (lv_at hl 1 rfl) ?_
        refine lv_if_eq (tgt := 529) hx hy dL_isLine_246 (by decide) (fun q => absurd q (by decide)) (fun _ => ?_)
        have hb1 := bN_le (bt X.1.2.2 jj tt)
        refine lv_aload_n hx hy dL_isLine_249 rfl (lv_at hl 2 rfl) ?_
        refine lv_iload_n hx hy dL_isLine_250 rfl (lv_at hl 3 rfl) ?_
        refine lv_iload hx hy dL_isLine_251 (lv_at hl 0 rfl) ?_
        refine zI hI (xV F hI hl (kX5_bit l E (wv) (X := X) hCw hX (nI jj) (nI tt)) M_L_39 (rX5 F hI) rfl ⟨Nat.le_of_ble_eq_true rfl, Nat.le_of_ble_eq_true rfl⟩ ⟨Nat.zero_le _, Nat.zero_le _⟩ rfl (Nat.le_of_ble_eq_true rfl) dL_isLine_253) (fun r130 v131 H locs hI hp129 => ?_)
        obtain ⟨hq132, hC133⟩ := q_bit hp129 hX (by omega) (by omega)
        refine tI (show _ = nI (bN (bt X.1.2.2 jj tt)) from hq132) ?_
        refine lv_istore (lv' := [(14, .int (nI (bN (bt X.1.2.2 jj tt)))), (13, .int (nI tt)), (12, .int (nI 1)), (0, .ref (eA E 0)), (1, .int (nI jj)), (2, .int (nI kk)), (3, .int (x)), (4, .int (nI (X.1.2.1))), (5, .int (nI 1)), (6, .int (nI ((X.1.2.2 jj).2.1))), (7, .int (nI ((X.1.2.2 jj).2.2.1))), (8, .int ((-100000005)))]) hx hy dL_isLine_256 hl (by decide) rfl (fun ls hl => ?_)
        suffices k274 : ∀ (H : Heap) (locs : List Loc) (wv : SS), Iv E s H locs wv → RepC wv.1 X → W p l e (Rm 8 186) s m args below meth co H locs 0 0 Q (F0 m 274 ls [.int (nI 1)]) by
          refine lv_iload hx hy dL_isLine_258 (lv_at hl 0 rfl) ?_
          refine lv_if_eq (tgt := 269) hx hy dL_isLine_260 (by decide) (fun h134 => ?_) (fun h134 => ?_)
          · have h134 : bN (bt X.1.2.2 jj tt) = 0 := (nI_eq (a := bN (bt X.1.2.2 jj tt)) (b := 0) (by omega) (by omega)).mp h134
            refine lv_iconst (v := nI 1) hx hy dL_isLine_269 (by decide) ?_
            refine lv_goto (tgt := 274) hx hy dL_isLine_270 (by decide) ?_
            exact k274 H locs v131 hI hC133
          · have h134 : bN (bt X.1.2.2 jj tt) ≠ 0 := fun q9 => h134 ((nI_eq (a := bN (bt X.1.2.2 jj tt)) (b := 0) (by omega) (by omega)).mpr q9)
            refine lv_iload hx hy dL_isLine_263 (lv_at hl 0 rfl) ?_
            refine lv_iconst (v := nI 1) hx hy dL_isLine_265 (by decide) ?_
            refine lv_icmp_ne (tgt := 273) hx hy dL_isLine_266 (by decide) (fun q => absurd (congrArg nI (show bN (bt X.1.2.2 jj tt) = 1 by omega)) q) (fun h135 => ?_)
            refine lv_iconst (v := nI 1) hx hy dL_isLine_269 (by decide) ?_
            refine lv_goto (tgt := 274) hx hy dL_isLine_270 (by decide) ?_
            exact k274 H locs v131 hI hC133
        intro H locs wv137 hI hw136
        refine lv_istore (lv' := [(12, .int (nI 1)), (14, .int (nI (bN (bt X.1.2.2 jj tt)))), (13, .int (nI tt)), (0, .ref (eA E 0)), (1, .int (nI jj)), (2, .int (nI kk)), (3, .int (x)), (4, .int (nI (X.1.2.1))), (5, .int (nI 1)), (6, .int (nI ((X.1.2.2 jj).2.1))), (7, .int (nI ((X.1.2.2 jj).2.2.1))), (8, .int ((-100000005)))]) hx hy dL_isLine_274 hl (by decide) rfl (fun ls hl => ?_)
        refine lv_iload hx hy dL_isLine_276 (lv_at hl 8 rfl) ?_
        refine lv_iconst (v := nI 1) hx hy dL_isLine_278 (by decide) ?_
        refine lv_icmp_eq (tgt := 294) hx hy dL_isLine_279 (by decide) (fun _ => ?_) (fun q => absurd q (by decide))
        refine lv_aload_n hx hy dL_isLine_294 rfl (lv_at hl 3 rfl) ?_
        refine lv_iload hx hy dL_isLine_295 (lv_at hl 9 rfl) ?_
        refine lv_iload hx hy dL_isLine_297 (lv_at hl 2 rfl) ?_
        refine zI hI (xV F hI hl (kX5_bit l E (wv137) (X := X) hw136 hX (nI ((X.1.2.2 jj).2.1)) (nI tt)) M_L_39 (rX5 F hI) rfl ⟨Nat.le_of_ble_eq_true rfl, Nat.le_of_ble_eq_true rfl⟩ ⟨Nat.zero_le _, Nat.zero_le _⟩ rfl (Nat.le_of_ble_eq_true rfl) dL_isLine_299) (fun r139 v140 H locs hI hp138 => ?_)
        obtain ⟨hq141, hC142⟩ := q_bit hp138 hX (by omega) (by omega)
        refine tI (show _ = nI (bN (bt X.1.2.2 ((X.1.2.2 jj).2.1) tt)) from hq141) ?_
        refine lv_aload_n hx hy dL_isLine_302 rfl (lv_at hl 3 rfl) ?_
        refine lv_iload hx hy dL_isLine_303 (lv_at hl 10 rfl) ?_
        refine lv_iload hx hy dL_isLine_305 (lv_at hl 2 rfl) ?_
        refine zI hI (xV F hI hl (kX5_bit l E (v140) (X := X) hC142 hX (nI ((X.1.2.2 jj).2.2.1)) (nI tt)) M_L_39 (rX5 F hI) rfl ⟨Nat.le_of_ble_eq_true rfl, Nat.le_of_ble_eq_true rfl⟩ ⟨Nat.zero_le _, Nat.zero_le _⟩ rfl (Nat.le_of_ble_eq_true rfl) dL_isLine_307) (fun r144 v145 H locs hI hp143 => ?_)
        obtain ⟨hq146, hC147⟩ := q_bit hp143 hX (by omega) (by omega)
        refine tI (show _ = nI (bN (bt X.1.2.2 ((X.1.2.2 jj).2.2.1) tt)) from hq146) ?_
        refine lv_iadd hx hy dL_isLine_310 ?_
        refine tI (nI_add (bN (bt X.1.2.2 ((X.1.2.2 jj).2.1) tt)) (bN (bt X.1.2.2 ((X.1.2.2 jj).2.2.1) tt))) ?_
        refine lv_istore (lv' := [(15, .int (nI (bN (bt X.1.2.2 ((X.1.2.2 jj).2.1) tt) + bN (bt X.1.2.2 ((X.1.2.2 jj).2.2.1) tt)))), (12, .int (nI 1)), (14, .int (nI (bN (bt X.1.2.2 jj tt)))), (13, .int (nI tt)), (0, .ref (eA E 0)), (1, .int (nI jj)), (2, .int (nI kk)), (3, .int (x)), (4, .int (nI (X.1.2.1))), (5, .int (nI 1)), (6, .int (nI ((X.1.2.2 jj).2.1))), (7, .int (nI ((X.1.2.2 jj).2.2.1))), (8, .int ((-100000005)))]) hx hy dL_isLine_311 hl (by decide) rfl (fun ls hl => ?_)
        have hb2 := bN_le (bt X.1.2.2 (X.1.2.2 jj).2.1 tt)
        have hb3 := bN_le (bt X.1.2.2 (X.1.2.2 jj).2.2.1 tt)
        refine lv_iload hx hy dL_isLine_313 (lv_at hl 1 rfl) ?_
        refine lv_if_eq (tgt := 359) hx hy dL_isLine_315 (by decide) (fun q => absurd q (by decide)) (fun _ => ?_)
        refine lv_iload hx hy dL_isLine_318 (lv_at hl 2 rfl) ?_
        refine lv_iload hx hy dL_isLine_320 (lv_at hl 9 rfl) ?_
        refine lv_iconst (v := nI 1) hx hy dL_isLine_322 (by decide) ?_
        refine lv_icmp_ne (tgt := 333) hx hy dL_isLine_323 (by decide) (fun q => absurd q (by decide)) (fun _ => ?_)
        refine lv_iload hx hy dL_isLine_326 (lv_at hl 0 rfl) ?_
        refine lv_iconst (v := nI 2) hx hy dL_isLine_328 (by decide) ?_
        refine lv_idiv hx hy dL_isLine_329 (fun q => absurd ((nI_eq (by omega) (by omega)).mp (show nI (2) = nI 0 from q)) (by omega)) ?_
        refine tI (pk_div (a := bN (bt X.1.2.2 ((X.1.2.2 jj).2.1) tt) + bN (bt X.1.2.2 ((X.1.2.2 jj).2.2.1) tt)) (d := 2) (by omega) (by omega) (by omega)) ?_
        refine lv_goto (tgt := 352) hx hy dL_isLine_330 (by decide) ?_
        refine lv_icmp_ne (tgt := 359) hx hy dL_isLine_352 (by decide) (fun q => absurd (congrArg nI ((congrArg bN (bt_1 hq hk (t := tt)) : _).trans (half_and _ _))) q) (fun h148 => ?_)
        refine lv_iconst (v := nI 1) hx hy dL_isLine_355 (by decide) ?_
        refine lv_goto (tgt := 360) hx hy dL_isLine_356 (by decide) ?_
        refine lv_istore (lv' := [(12, .int (nI 1)), (15, .int (nI (bN (bt X.1.2.2 ((X.1.2.2 jj).2.1) tt) + bN (bt X.1.2.2 ((X.1.2.2 jj).2.2.1) tt)))), (14, .int (nI (bN (bt X.1.2.2 jj tt)))), (13, .int (nI tt)), (0, .ref (eA E 0)), (1, .int (nI jj)), (2, .int (nI kk)), (3, .int (x)), (4, .int (nI (X.1.2.1))), (5, .int (nI 1)), (6, .int (nI ((X.1.2.2 jj).2.1))), (7, .int (nI ((X.1.2.2 jj).2.2.1))), (8, .int ((-100000005)))]) hx hy dL_isLine_360 hl (by decide) rfl (fun ls hl => ?_)
        refine lv_goto (tgt := 523) hx hy dL_isLine_362 (by decide) ?_
        refine lv_iinc (v := nI (tt + 97)) (lv' := [(13, .int (nI (tt + 97))), (12, .int (nI 1)), (15, .int (nI (bN (bt X.1.2.2 ((X.1.2.2 jj).2.1) tt) + bN (bt X.1.2.2 ((X.1.2.2 jj).2.2.1) tt)))), (14, .int (nI (bN (bt X.1.2.2 jj tt)))), (0, .ref (eA E 0)), (1, .int (nI jj)), (2, .int (nI kk)), (3, .int (x)), (4, .int (nI (X.1.2.1))), (5, .int (nI 1)), (6, .int (nI ((X.1.2.2 jj).2.1))), (7, .int (nI ((X.1.2.2 jj).2.2.1))), (8, .int ((-100000005)))]) hx hy dL_isLine_523 hl (k := 3) rfl (nI_add (tt) 97) (by decide) rfl (fun ls hl => ?_)
        refine lv_goto (tgt := 236) hx hy dL_isLine_526 (by decide) ?_
        exact ih_236 (tt + 97) v145 (by omega) (by omega) hC147 _ _ _ hI (lv_sub hl [0, 1, 4, 5, 6, 7, 8, 9, 10, 11, 12] rfl)
  exact lp102 1201 j101 v94 (by omega) (by omega) hC96 _ _ _ hI (lv_sub hl [0, 1, 10, 11, 12, 13, 9, 8, 7, 6, 5] rfl)
