set_option maxHeartbeats 400000 in
set_option maxRecDepth 100000 in
theorem kL_isTurned (l : Launch) {E0 E1 E2 : EV} (hT : Two E0 E1 E2) (u w : SS) {X Y : XS} (hCa : RepC u.1 X) (hCb : RepC w.1 Y) (hR : Rl X Y) (jj : Nat) (hj : jj < X.1.1) : CT2 l yL_isTurned cL_isTurned 6 (some .boolean) (Rm 8 186) [.ref (eA E1 0), .ref (eA E2 0), .int (nI jj)] E0 E1 E2 u w (fun r v => r = 1 ∧ RepC v.1.1 X ∧ RepC v.2.1 Y) := by
  refine mstart2 RL (by decide +kernel) rfl (Nat.le_of_ble_eq_true rfl) ?_
  intro p e s m args below meth co ls Q hQ F hI hl
  have hx := F.1
  have hy := F.2.1
  have hl : lv_has ls 6 [(0, .ref (eA E1 0)), (1, .ref (eA E2 0)), (2, .int (nI jj))] := hl
  have hXa := hR.1
  have hXb := hR.2.1
  have h8 := hR.2.2.1
  have hYn := hR.2.2.2.1
  have hYl := hR.2.2.2.2.1
  have hl1 := hXa.1.2.1
  have hl2 := hXa.1.2.2.1
  obtain ⟨t1, t2, t3, t4, t5⟩ := hR.turned hj
  obtain ⟨b1, b2⟩ := hR.bits hj
  have hca := cnt_le X.1.2.2 jj X.1.2.1
  have hexl := ex_le hXb.1.2.2.2 (2 * jj) (by omega)
  refine lv_aload_n hx hy dL_isTurned_0 rfl (lv_at hl 0 rfl) ?_
  refine lv_iconst (v := nI 1) hx hy dL_isTurned_1 (by decide) ?_
  refine za hT hI (xVa F hT hI hl (kX5_count l E1 u (X := X) hCa hXa (nI 1)) M_L_9 (rX5a F hT hI) rfl ⟨Nat.le_of_ble_eq_true rfl, Nat.le_of_ble_eq_true rfl⟩ ⟨Nat.zero_le _, Nat.zero_le _⟩ rfl (Nat.le_of_ble_eq_true rfl) dL_isTurned_2) (fun r2 v3 H locs hI hp1 => ?_)
  obtain ⟨hq4, hC5⟩ := q_count hp1 (by decide)
  refine tI (show _ = nI (X.1.2.1) from hq4) ?_
  refine lv_istore_n (lv' := [(3, .int (nI (X.1.2.1))), (0, .ref (eA E1 0)), (1, .ref (eA E2 0)), (2, .int (nI jj))]) hx hy dL_isTurned_5 rfl hl (by decide) rfl (fun ls hl => ?_)
  refine lv_aload_n hx hy dL_isTurned_6 rfl (lv_at hl 1 rfl) ?_
  refine lv_iload_n hx hy dL_isTurned_7 rfl (lv_at hl 3 rfl) ?_
  refine lv_iconst (v := nI 4) hx hy dL_isTurned_8 (by decide) ?_
  refine za hT hI (xVa F hT hI hl (kX5_line l E1 v3 (X := X) hC5 hXa (nI jj) (nI 4)) M_L_36 (rX5a F hT hI) rfl ⟨Nat.le_of_ble_eq_true rfl, Nat.le_of_ble_eq_true rfl⟩ ⟨Nat.zero_le _, Nat.zero_le _⟩ rfl (Nat.le_of_ble_eq_true rfl) dL_isTurned_9) (fun r7 v8 H locs hI hp6 => ?_)
  obtain ⟨hq9, hC10⟩ := q_line hp6 hXa (by omega) (by decide)
  refine tI (show _ = nI (cnt X.1.2.2 jj X.1.2.1) from hq9) ?_
  refine lv_aload_n hx hy dL_isTurned_12 rfl (lv_at hl 2 rfl) ?_
  refine lv_iconst (v := nI 2) hx hy dL_isTurned_13 (by decide) ?_
  refine lv_iload_n hx hy dL_isTurned_14 rfl (lv_at hl 3 rfl) ?_
  refine lv_imul hx hy dL_isTurned_15 ?_
  refine tI (pk_mul (2) (jj)) ?_
  refine lv_iconst (v := nI 4) hx hy dL_isTurned_16 (by decide) ?_
  refine zb hT hI (xVb F hT hI hl (kX5_line l E2 w (X := Y) hCb hXb (nI (2 * jj)) (nI 4)) M_L_36 (rX5b F hT hI) rfl ⟨Nat.le_of_ble_eq_true rfl, Nat.le_of_ble_eq_true rfl⟩ ⟨Nat.zero_le _, Nat.zero_le _⟩ rfl (Nat.le_of_ble_eq_true rfl) dL_isTurned_17) (fun r12 v13 H locs hI hp11 => ?_)
  obtain ⟨hq14, hC15⟩ := q_line hp11 hXb (by omega) (by decide)
  refine tI (show _ = nI (cnt Y.1.2.2 (2 * jj) Y.1.2.1) from hq14) ?_
  refine lv_icmp_ne (tgt := 113) hx hy dL_isTurned_20 (by decide) (fun q => absurd (congrArg nI t1.symm) q) (fun h16 => ?_)
  refine lv_aload_n hx hy dL_isTurned_23 rfl (lv_at hl 2 rfl) ?_
  refine lv_iconst (v := nI 2) hx hy dL_isTurned_24 (by decide) ?_
  refine lv_iload_n hx hy dL_isTurned_25 rfl (lv_at hl 3 rfl) ?_
  refine lv_imul hx hy dL_isTurned_26 ?_
  refine tI (pk_mul (2) (jj)) ?_
  refine lv_iconst (v := nI 1) hx hy dL_isTurned_27 (by decide) ?_
  refine lv_iadd hx hy dL_isTurned_28 ?_
  refine tI (nI_add (2 * jj) (1)) ?_
  refine lv_iconst (v := nI 4) hx hy dL_isTurned_29 (by decide) ?_
  refine zb hT hI (xVb F hT hI hl (kX5_line l E2 v13 (X := Y) hC15 hXb (nI (2 * jj + 1)) (nI 4)) M_L_36 (rX5b F hT hI) rfl ⟨Nat.le_of_ble_eq_true rfl, Nat.le_of_ble_eq_true rfl⟩ ⟨Nat.zero_le _, Nat.zero_le _⟩ rfl (Nat.le_of_ble_eq_true rfl) dL_isTurned_30) (fun r18 v19 H locs hI hp17 => ?_)
  obtain ⟨hq20, hC21⟩ := q_line hp17 hXb (by omega) (by decide)
  refine tI (show _ = nI (cnt Y.1.2.2 (2 * jj + 1) Y.1.2.1) from hq20) ?_
  refine lv_iload_n hx hy dL_isTurned_33 rfl (lv_at hl 0 rfl) ?_
  refine lv_aload_n hx hy dL_isTurned_34 rfl (lv_at hl 1 rfl) ?_
  refine lv_iload_n hx hy dL_isTurned_35 rfl (lv_at hl 3 rfl) ?_
  refine lv_iconst (v := nI 4) hx hy dL_isTurned_36 (by decide) ?_
  refine za hT hI (xVa F hT hI hl (kX5_line l E1 v8 (X := X) hC10 hXa (nI jj) (nI 4)) M_L_36 (rX5a F hT hI) rfl ⟨Nat.le_of_ble_eq_true rfl, Nat.le_of_ble_eq_true rfl⟩ ⟨Nat.zero_le _, Nat.zero_le _⟩ rfl (Nat.le_of_ble_eq_true rfl) dL_isTurned_37) (fun r23 v24 H locs hI hp22 => ?_)
  obtain ⟨hq25, hC26⟩ := q_line hp22 hXa (by omega) (by decide)
  refine tI (show _ = nI (cnt X.1.2.2 jj X.1.2.1) from hq25) ?_
  refine lv_isub hx hy dL_isTurned_40 ?_
  refine tI (pk_sub (a := X.1.2.1) (b := cnt X.1.2.2 jj X.1.2.1) (by omega)) ?_
  refine lv_icmp_ne (tgt := 113) hx hy dL_isTurned_41 (by decide) (fun q => absurd (congrArg nI t2) q) (fun h27 => ?_)
  refine lv_aload_n hx hy dL_isTurned_44 rfl (lv_at hl 2 rfl) ?_
  refine lv_iconst (v := nI 2) hx hy dL_isTurned_45 (by decide) ?_
  refine lv_iload_n hx hy dL_isTurned_46 rfl (lv_at hl 3 rfl) ?_
  refine lv_imul hx hy dL_isTurned_47 ?_
  refine tI (pk_mul (2) (jj)) ?_
  refine lv_iconst (v := nI 1) hx hy dL_isTurned_48 (by decide) ?_
  refine lv_iadd hx hy dL_isTurned_49 ?_
  refine tI (nI_add (2 * jj) (1)) ?_
  refine lv_bipush (v := nI 6) hx hy dL_isTurned_50 (by decide) ?_
  refine zb hT hI (xVb F hT hI hl (kX5_line l E2 v19 (X := Y) hC21 hXb (nI (2 * jj + 1)) (nI 6)) M_L_36 (rX5b F hT hI) rfl ⟨Nat.le_of_ble_eq_true rfl, Nat.le_of_ble_eq_true rfl⟩ ⟨Nat.zero_le _, Nat.zero_le _⟩ rfl (Nat.le_of_ble_eq_true rfl) dL_isTurned_52) (fun r29 v30 H locs hI hp28 => ?_)
  obtain ⟨hq31, hC32⟩ := q_line hp28 hXb (by omega) (by decide)
  refine tI (show _ = nI (ex Y.1.2.2 (2 * jj + 1)) from hq31) ?_
  refine zc F K_L_63 dL_isTurned_55 ?_
  refine tI (show _ = nI 65536 from rfl) ?_
  refine lv_aload_n hx hy dL_isTurned_57 rfl (lv_at hl 2 rfl) ?_
  refine lv_iconst (v := nI 2) hx hy dL_isTurned_58 (by decide) ?_
  refine lv_iload_n hx hy dL_isTurned_59 rfl (lv_at hl 3 rfl) ?_
  refine lv_imul hx hy dL_isTurned_60 ?_
  refine tI (pk_mul (2) (jj)) ?_
  refine lv_bipush (v := nI 6) hx hy dL_isTurned_61 (by decide) ?_
  refine zb hT hI (xVb F hT hI hl (kX5_line l E2 v30 (X := Y) hC32 hXb (nI (2 * jj)) (nI 6)) M_L_36 (rX5b F hT hI) rfl ⟨Nat.le_of_ble_eq_true rfl, Nat.le_of_ble_eq_true rfl⟩ ⟨Nat.zero_le _, Nat.zero_le _⟩ rfl (Nat.le_of_ble_eq_true rfl) dL_isTurned_63) (fun r34 v35 H locs hI hp33 => ?_)
  obtain ⟨hq36, hC37⟩ := q_line hp33 hXb (by omega) (by decide)
  refine tI (show _ = nI (ex Y.1.2.2 (2 * jj)) from hq36) ?_
  refine lv_isub hx hy dL_isTurned_66 ?_
  refine tI (pk_sub (a := 65536) (b := ex Y.1.2.2 (2 * jj)) (by omega)) ?_
  refine lv_icmp_ne (tgt := 113) hx hy dL_isTurned_67 (by decide) (fun q => absurd (congrArg nI t3) q) (fun h38 => ?_)
  refine lv_aload_n hx hy dL_isTurned_70 rfl (lv_at hl 1 rfl) ?_
  refine lv_iload_n hx hy dL_isTurned_71 rfl (lv_at hl 3 rfl) ?_
  refine za hT hI (xVa F hT hI hl (kX5_unlike l E1 v24 (X := X) hC26 hXa (nI jj)) M_L_64 (rX5a F hT hI) rfl ⟨Nat.le_of_ble_eq_true rfl, Nat.le_of_ble_eq_true rfl⟩ ⟨Nat.zero_le _, Nat.zero_le _⟩ rfl (Nat.le_of_ble_eq_true rfl) dL_isTurned_72) (fun r40 v41 H locs hI hp39 => ?_)
  obtain ⟨hq42, hC43⟩ := q_unlike hp39 hXa (by omega)
  refine tI (show _ = nI (unlF X.1.2.2 jj 195) from hq42) ?_
  refine lv_aload_n hx hy dL_isTurned_75 rfl (lv_at hl 2 rfl) ?_
  refine lv_iconst (v := nI 2) hx hy dL_isTurned_76 (by decide) ?_
  refine lv_iload_n hx hy dL_isTurned_77 rfl (lv_at hl 3 rfl) ?_
  refine lv_imul hx hy dL_isTurned_78 ?_
  refine tI (pk_mul (2) (jj)) ?_
  refine lv_iconst (v := nI 1) hx hy dL_isTurned_79 (by decide) ?_
  refine lv_iadd hx hy dL_isTurned_80 ?_
  refine tI (nI_add (2 * jj) (1)) ?_
  refine zb hT hI (xVb F hT hI hl (kX5_unlike l E2 v35 (X := Y) hC37 hXb (nI (2 * jj + 1))) M_L_64 (rX5b F hT hI) rfl ⟨Nat.le_of_ble_eq_true rfl, Nat.le_of_ble_eq_true rfl⟩ ⟨Nat.zero_le _, Nat.zero_le _⟩ rfl (Nat.le_of_ble_eq_true rfl) dL_isTurned_81) (fun r45 v46 H locs hI hp44 => ?_)
  obtain ⟨hq47, hC48⟩ := q_unlike hp44 hXb (by omega)
  refine tI (show _ = nI (unlF Y.1.2.2 (2 * jj + 1) 195) from hq47) ?_
  refine lv_icmp_ne (tgt := 113) hx hy dL_isTurned_84 (by decide) (fun q => absurd (congrArg nI t4.symm) q) (fun h49 => ?_)
  refine lv_aload_n hx hy dL_isTurned_87 rfl (lv_at hl 1 rfl) ?_
  refine lv_iload_n hx hy dL_isTurned_88 rfl (lv_at hl 3 rfl) ?_
  refine lv_iload_n hx hy dL_isTurned_89 rfl (lv_at hl 3 rfl) ?_
  refine za hT hI (xVa F hT hI hl (kX5_overlap l E1 v41 (X := X) hC43 hXa (nI jj) (nI jj)) M_L_67 (rX5a F hT hI) rfl ⟨Nat.le_of_ble_eq_true rfl, Nat.le_of_ble_eq_true rfl⟩ ⟨Nat.zero_le _, Nat.zero_le _⟩ rfl (Nat.le_of_ble_eq_true rfl) dL_isTurned_90) (fun r51 v52 H locs hI hp50 => ?_)
  obtain ⟨hq53, hC54⟩ := q_overlap hp50 hXa (by omega) (by omega)
  refine tI (show _ = ovl X.1.2.2 jj jj X.1.2.1 from hq53) ?_
  refine lv_aload_n hx hy dL_isTurned_93 rfl (lv_at hl 2 rfl) ?_
  refine lv_iconst (v := nI 2) hx hy dL_isTurned_94 (by decide) ?_
  refine lv_iload_n hx hy dL_isTurned_95 rfl (lv_at hl 3 rfl) ?_
  refine lv_imul hx hy dL_isTurned_96 ?_
  refine tI (pk_mul (2) (jj)) ?_
  refine lv_iconst (v := nI 2) hx hy dL_isTurned_97 (by decide) ?_
  refine lv_iload_n hx hy dL_isTurned_98 rfl (lv_at hl 3 rfl) ?_
  refine lv_imul hx hy dL_isTurned_99 ?_
  refine tI (pk_mul (2) (jj)) ?_
  refine lv_iconst (v := nI 1) hx hy dL_isTurned_100 (by decide) ?_
  refine lv_iadd hx hy dL_isTurned_101 ?_
  refine tI (nI_add (2 * jj) (1)) ?_
  refine zb hT hI (xVb F hT hI hl (kX5_overlap l E2 v46 (X := Y) hC48 hXb (nI (2 * jj)) (nI (2 * jj + 1))) M_L_67 (rX5b F hT hI) rfl ⟨Nat.le_of_ble_eq_true rfl, Nat.le_of_ble_eq_true rfl⟩ ⟨Nat.zero_le _, Nat.zero_le _⟩ rfl (Nat.le_of_ble_eq_true rfl) dL_isTurned_102) (fun r56 v57 H locs hI hp55 => ?_)
  obtain ⟨hq58, hC59⟩ := q_overlap hp55 hXb (by omega) (by omega)
  refine tI (show _ = ovl Y.1.2.2 (2 * jj) (2 * jj + 1) Y.1.2.1 from hq58) ?_
  refine lv_ineg hx hy dL_isTurned_105 ?_
  refine lv_icmp_ne (tgt := 113) hx hy dL_isTurned_106 (by decide) (fun q => absurd t5 q) (fun h60 => ?_)
  refine lv_iconst (v := nI 1) hx hy dL_isTurned_109 (by decide) ?_
  refine lv_goto (tgt := 114) hx hy dL_isTurned_110 (by decide) ?_
  refine lv_istore (lv' := [(4, .int (nI 1)), (3, .int (nI (X.1.2.1))), (0, .ref (eA E1 0)), (1, .ref (eA E2 0)), (2, .int (nI jj))]) hx hy dL_isTurned_114 hl (by decide) rfl (fun ls hl => ?_)
  refine lv_iconst (v := nI 0) hx hy dL_isTurned_116 (by decide) ?_
  refine lv_istore (lv' := [(5, .int (nI 0)), (4, .int (nI 1)), (3, .int (nI (X.1.2.1))), (0, .ref (eA E1 0)), (1, .ref (eA E2 0)), (2, .int (nI jj))]) hx hy dL_isTurned_117 hl (by decide) rfl (fun ls hl => ?_)
  have lp61 : ∀ (fu : Nat) (tt : Nat) (va vb : SS), (tt ≤ 40) → (40 - tt < fu) → (RepC va.1 X) → (RepC vb.1 Y) →  ∀ (H : Heap) (locs : List Loc) (ls : Array Slot), Iv2 E0 E1 E2 s H locs va vb → lv_has ls 6 [(5, .int (nI tt)), (4, .int (nI 1)), (0, .ref (eA E1 0)), (1, .ref (eA E2 0)), (2, .int (nI jj))] → W p l e (Rm 8 186) s m args below meth co H locs 0 0 Q (F0 m 119 ls []) := by
    intro fu
    induction fu with
    | zero => intro tt va vb htt hf hca9 hcb9; exact absurd hf (Nat.not_lt_zero _)
    | succ fu ih =>
      intro tt va vb htt hf hca9 hcb9 H locs ls hI hl
      have ih_119 := ih
      refine lv_iload hx hy dL_isTurned_119 (lv_at hl 0 rfl) ?_
      refine lv_bipush (v := nI 40) hx hy dL_isTurned_121 (by decide) ?_
      refine lv_icmp_ge (tgt := 186) hx hy dL_isTurned_123 (by decide) (fun h62 => ?_) (fun h62 => ?_)
      · have h62 : 40 ≤ tt := (nI_leI (a := 40) (b := tt) (by omega) (by omega)).mp h62
        refine lv_iload hx hy dL_isTurned_186 (lv_at hl 1 rfl) ?_
        exact rZ2 hQ F rfl hI dL_isTurned_188 ⟨rfl, hca9, hcb9⟩
      · have h62 : tt < 40 := Nat.lt_of_not_le (fun q9 => h62 ((nI_leI (a := 40) (b := tt) (by omega) (by omega)).mpr q9))
        refine lv_iload hx hy dL_isTurned_126 (lv_at hl 1 rfl) ?_
        refine lv_if_eq (tgt := 177) hx hy dL_isTurned_128 (by decide) (fun q => absurd q (by decide)) (fun _ => ?_)
        refine lv_aload_n hx hy dL_isTurned_131 rfl (lv_at hl 2 rfl) ?_
        refine lv_iload_n hx hy dL_isTurned_132 rfl (lv_at hl 4 rfl) ?_
        refine lv_iload hx hy dL_isTurned_133 (lv_at hl 0 rfl) ?_
        refine za hT hI (xVa F hT hI hl (kX5_bit l E1 va (X := X) hca9 hXa (nI jj) (nI tt)) M_L_39 (rX5a F hT hI) rfl ⟨Nat.le_of_ble_eq_true rfl, Nat.le_of_ble_eq_true rfl⟩ ⟨Nat.zero_le _, Nat.zero_le _⟩ rfl (Nat.le_of_ble_eq_true rfl) dL_isTurned_135) (fun r64 v65 H locs hI hp63 => ?_)
        obtain ⟨hq66, hC67⟩ := q_bit hp63 hXa (by omega) (by omega)
        refine tI (show _ = nI (bN (bt X.1.2.2 jj tt)) from hq66) ?_
        refine lv_aload_n hx hy dL_isTurned_138 rfl (lv_at hl 3 rfl) ?_
        refine lv_iconst (v := nI 2) hx hy dL_isTurned_139 (by decide) ?_
        refine lv_iload_n hx hy dL_isTurned_140 rfl (lv_at hl 4 rfl) ?_
        refine lv_imul hx hy dL_isTurned_141 ?_
        refine tI (pk_mul (2) (jj)) ?_
        refine lv_iload hx hy dL_isTurned_142 (lv_at hl 0 rfl) ?_
        refine zb hT hI (xVb F hT hI hl (kX5_bit l E2 vb (X := Y) hcb9 hXb (nI (2 * jj)) (nI tt)) M_L_39 (rX5b F hT hI) rfl ⟨Nat.le_of_ble_eq_true rfl, Nat.le_of_ble_eq_true rfl⟩ ⟨Nat.zero_le _, Nat.zero_le _⟩ rfl (Nat.le_of_ble_eq_true rfl) dL_isTurned_144) (fun r69 v70 H locs hI hp68 => ?_)
        obtain ⟨hq71, hC72⟩ := q_bit hp68 hXb (by omega) (by omega)
        refine tI (show _ = nI (bN (bt Y.1.2.2 (2 * jj) tt)) from hq71) ?_
        refine lv_icmp_ne (tgt := 177) hx hy dL_isTurned_147 (by decide) (fun q => absurd (congrArg nI (congrArg bN (b1 tt)).symm) q) (fun h73 => ?_)
        refine lv_aload_n hx hy dL_isTurned_150 rfl (lv_at hl 2 rfl) ?_
        refine lv_iload_n hx hy dL_isTurned_151 rfl (lv_at hl 4 rfl) ?_
        refine lv_iload hx hy dL_isTurned_152 (lv_at hl 0 rfl) ?_
        refine za hT hI (xVa F hT hI hl (kX5_bit l E1 v65 (X := X) hC67 hXa (nI jj) (nI tt)) M_L_39 (rX5a F hT hI) rfl ⟨Nat.le_of_ble_eq_true rfl, Nat.le_of_ble_eq_true rfl⟩ ⟨Nat.zero_le _, Nat.zero_le _⟩ rfl (Nat.le_of_ble_eq_true rfl) dL_isTurned_154) (fun r75 v76 H locs hI hp74 => ?_)
        obtain ⟨hq77, hC78⟩ := q_bit hp74 hXa (by omega) (by omega)
        refine tI (show _ = nI (bN (bt X.1.2.2 jj tt)) from hq77) ?_
        refine lv_aload_n hx hy dL_isTurned_157 rfl (lv_at hl 3 rfl) ?_
        refine lv_iconst (v := nI 2) hx hy dL_isTurned_158 (by decide) ?_
        refine lv_iload_n hx hy dL_isTurned_159 rfl (lv_at hl 4 rfl) ?_
        refine lv_imul hx hy dL_isTurned_160 ?_
        refine tI (pk_mul (2) (jj)) ?_
        refine lv_iconst (v := nI 1) hx hy dL_isTurned_161 (by decide) ?_
        refine lv_iadd hx hy dL_isTurned_162 ?_
        refine tI (nI_add (2 * jj) (1)) ?_
        refine lv_iload hx hy dL_isTurned_163 (lv_at hl 0 rfl) ?_
        refine zb hT hI (xVb F hT hI hl (kX5_bit l E2 v70 (X := Y) hC72 hXb (nI (2 * jj + 1)) (nI tt)) M_L_39 (rX5b F hT hI) rfl ⟨Nat.le_of_ble_eq_true rfl, Nat.le_of_ble_eq_true rfl⟩ ⟨Nat.zero_le _, Nat.zero_le _⟩ rfl (Nat.le_of_ble_eq_true rfl) dL_isTurned_165) (fun r80 v81 H locs hI hp79 => ?_)
        obtain ⟨hq82, hC83⟩ := q_bit hp79 hXb (by omega) (by omega)
        refine tI (show _ = nI (bN (bt Y.1.2.2 (2 * jj + 1) tt)) from hq82) ?_
        refine lv_iadd hx hy dL_isTurned_168 ?_
        refine tI (nI_add (bN (bt X.1.2.2 jj tt)) (bN (bt Y.1.2.2 (2 * jj + 1) tt))) ?_
        refine lv_iconst (v := nI 1) hx hy dL_isTurned_169 (by decide) ?_
        refine lv_icmp_ne (tgt := 177) hx hy dL_isTurned_170 (by decide) (fun q => absurd (congrArg nI (by rw [b2, bN_not]; have := bN_le (bt X.1.2.2 jj tt); omega)) q) (fun h84 => ?_)
        refine lv_iconst (v := nI 1) hx hy dL_isTurned_173 (by decide) ?_
        refine lv_goto (tgt := 178) hx hy dL_isTurned_174 (by decide) ?_
        refine lv_istore (lv' := [(4, .int (nI 1)), (5, .int (nI tt)), (0, .ref (eA E1 0)), (1, .ref (eA E2 0)), (2, .int (nI jj))]) hx hy dL_isTurned_178 hl (by decide) rfl (fun ls hl => ?_)
        refine lv_iinc (v := nI (tt + 1)) (lv' := [(5, .int (nI (tt + 1))), (4, .int (nI 1)), (0, .ref (eA E1 0)), (1, .ref (eA E2 0)), (2, .int (nI jj))]) hx hy dL_isTurned_180 hl (k := 1) rfl (nI_add (tt) 1) (by decide) rfl (fun ls hl => ?_)
        refine lv_goto (tgt := 119) hx hy dL_isTurned_183 (by decide) ?_
        exact ih_119 (tt + 1) v76 v81 (by omega) (by omega) hC78 hC83 _ _ _ hI (lv_sub hl [0, 1, 2, 3, 4] rfl)
  exact lp61 41 0 v52 v57 (by omega) (by omega) hC54 hC59 _ _ _ hI (lv_sub hl [0, 1, 3, 4, 5] rfl)
