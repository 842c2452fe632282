set_option maxHeartbeats 400000 in
set_option maxRecDepth 100000 in
theorem kX5_line (l : Launch) (E : EV) (u : SS) {X : XS} (hC : RepC u.1 X) (hX : XOk X) (x y : Int32) : CT l yX5_line cX5_line 3 (some .int) (Rm 6 143) [.ref (eA E 0), .int (x), .int (y)] E u (Q_i E (fun r v => r = (a_line X x y).1 ∧ RepC v.1 (a_line X x y).2 ∧ SameM u.1 v.1) (fun (v : SS) => v)) := by
  refine mstart RX5 (by decide +kernel) rfl (Nat.le_of_ble_eq_true rfl) ?_
  intro p e s m args below meth co ls Q hQ F hI hl
  have hx := F.1
  have hy := F.2.1
  have hl : lv_has ls 3 [(0, .ref (eA E 0)), (1, .int (x)), (2, .int (y))] := hl
  have hC2 := hC
  obtain ⟨hB, ⟨o, hH⟩, hS, hT⟩ := hC2
  have hn16 := hX.1.1
  have hl1 := hX.1.2.1
  have hl2 := hX.1.2.2.1
  have hh4 := hX.2.1.1
  have ht80 := hT.2.1
  refine lv_aload_n hx hy dX5_line_0 rfl (lv_at hl 0 rfl) ?_
  refine gX5_bench F hI L_X5_10 dX5_line_1 ?_
  refine lv_iload_n hx hy dX5_line_4 rfl (lv_at hl 1 rfl) ?_
  refine zI hI (xV F hI hl (kX0_has l E (u) (b := 0) (n := X.1.1) (by decide) hB.2.1 (by omega) x) M_X5_63 (rX0 F hI (b := 0) (by decide)) rfl ⟨Nat.le_of_ble_eq_true rfl, Nat.le_of_ble_eq_true rfl⟩ ⟨Nat.zero_le _, Nat.zero_le _⟩ rfl (Nat.le_of_ble_eq_true rfl) dX5_line_5) (fun r2 v3 H locs hI hp1 => ?_)
  rcases ixO_cases X.1.1 x (by omega) with hxx | ⟨jx, hljx, rfl, hxx⟩
  · have hp1 : r2 = 0 := hp1.trans (by rw [hxx]; rfl)
    subst hp1
    refine lv_if_ne (tgt := 14) hx hy dX5_line_8 (by decide) (fun q => absurd q (by decide)) (fun _ => ?_)
    refine zc F K_X5_67 dX5_line_11 ?_
    exact rI hQ F (v := (u.1, u.2)) hI dX5_line_13 (by rw [a_line, withL_n hxx]; exact ⟨rfl, hC, SameM.rf _⟩)
  · have hp1 : r2 = 1 := hp1.trans (by rw [hxx]; rfl)
    subst hp1
    have hokjx := hX.1.2.2.2 jx hljx
    have hk6jx := hokjx.1
    have hB9jx := hokjx.2.2.2.2.2.2.1
    have hC9jx := hokjx.2.2.2.2.2.2.2
    refine lv_if_ne (tgt := 14) hx hy dX5_line_8 (by decide) (fun _ => ?_) (fun q => absurd q (by decide))
    refine lv_iload_n hx hy dX5_line_14 rfl (lv_at hl 2 rfl) ?_
    rcases rgO_cases 0 9 y (by decide) (by decide) with hxy | ⟨jy, hmjy, hljy, rfl, hxy⟩
    · refine lv_tableOut (tgt := 216) hx hy dX5_line_15 (rgO_out (by decide) (by decide) hxy) (by decide) ?_
      refine zc F K_X5_58 dX5_line_216 ?_
      exact rI hQ F (v := (u.1, u.2)) hI dX5_line_218 (by rw [a_line, withL_s hxx, withR_n hxy]; exact ⟨rfl, hC, SameM.rf _⟩)
    · rcases (show jy = 0 ∨ jy = 1 ∨ jy = 2 ∨ jy = 3 ∨ jy = 4 ∨ jy = 5 ∨ jy = 6 ∨ jy = 7 ∨ jy = 8 ∨ jy = 9 by omega) with rfl | rfl | rfl | rfl | rfl | rfl | rfl | rfl | rfl | rfl
      · refine lv_tableIn (tgt := 68) hx hy dX5_line_15 (by decide) (by decide) (by rfl) (by decide) ?_
        refine lv_aload_n hx hy dX5_line_68 rfl (lv_at hl 0 rfl) ?_
        refine gX5_bench F hI L_X5_10 dX5_line_69 ?_
        refine lv_iload_n hx hy dX5_line_72 rfl (lv_at hl 1 rfl) ?_
        refine zI hI (xV F hI hl (kX0_kindOf l E (u) (b := 0) (by decide) (nI jx)) M_X5_72 (rX0 F hI (b := 0) (by decide)) rfl ⟨Nat.le_of_ble_eq_true rfl, Nat.le_of_ble_eq_true rfl⟩ ⟨Nat.zero_le _, Nat.zero_le _⟩ rfl (Nat.le_of_ble_eq_true rfl) dX5_line_73) (fun r5 v6 H locs hI hp4 => ?_)
        rw [el_lt (by omega) (by decide)] at hp4
        subst hp4
        refine tI (hB.2.2 jx hljx).1 ?_
        exact rI hQ F (v := (u.1, u.2)) hI dX5_line_76 (by rw [a_line, withL_s hxx, withR_s hxy]; exact ⟨rfl, hC, SameM.rf _⟩)
      · refine lv_tableIn (tgt := 77) hx hy dX5_line_15 (by decide) (by decide) (by rfl) (by decide) ?_
        refine lv_iload_n hx hy dX5_line_77 rfl (lv_at hl 2 rfl) ?_
        refine lv_aload_n hx hy dX5_line_78 rfl (lv_at hl 0 rfl) ?_
        refine gX5_bench F hI L_X5_10 dX5_line_79 ?_
        refine lv_iload_n hx hy dX5_line_82 rfl (lv_at hl 1 rfl) ?_
        refine zI hI (xV F hI hl (kX0_kindOf l E (u) (b := 0) (by decide) (nI jx)) M_X5_72 (rX0 F hI (b := 0) (by decide)) rfl ⟨Nat.le_of_ble_eq_true rfl, Nat.le_of_ble_eq_true rfl⟩ ⟨Nat.zero_le _, Nat.zero_le _⟩ rfl (Nat.le_of_ble_eq_true rfl) dX5_line_83) (fun r8 v9 H locs hI hp7 => ?_)
        rw [el_lt (by omega) (by decide)] at hp7
        subst hp7
        refine tI (hB.2.2 jx hljx).1 ?_
        refine zI hI (xS F hI hl (kX5_numbersOfKind l E (u) ((X.1.2.2 jx).1) (by omega)) M_X5_125 rfl ⟨Nat.le_of_ble_eq_true rfl, Nat.le_of_ble_eq_true rfl⟩ ⟨Nat.zero_le _, Nat.zero_le _⟩ rfl (Nat.le_of_ble_eq_true rfl) dX5_line_86) (fun r11 v12 H locs hI hp10 => ?_)
        subst hp10
        refine tI (tbl_np _ (by omega)) ?_
        have hnp := npK_le (X.1.2.2 jx).1 (by omega)
        refine lv_icmp_le (tgt := 97) hx hy dX5_line_89 (by decide) (fun h13 => ?_) (fun h13 => ?_)
        · have h13 : 1 ≤ npK (X.1.2.2 jx).1 := (nI_leI (a := 1) (b := npK (X.1.2.2 jx).1) (by omega) (by omega)).mp h13
          refine lv_aload_n hx hy dX5_line_97 rfl (lv_at hl 0 rfl) ?_
          refine gX5_bench F hI L_X5_10 dX5_line_98 ?_
          refine lv_iload_n hx hy dX5_line_101 rfl (lv_at hl 1 rfl) ?_
          refine lv_iload_n hx hy dX5_line_102 rfl (lv_at hl 2 rfl) ?_
          refine zI hI (xV F hI hl (kX0_numberOf l E (u) (b := 0) (by decide) (nI jx) (nI 1)) M_X5_77 (rX0 F hI (b := 0) (by decide)) rfl ⟨Nat.le_of_ble_eq_true rfl, Nat.le_of_ble_eq_true rfl⟩ ⟨Nat.zero_le _, Nat.zero_le _⟩ rfl (Nat.le_of_ble_eq_true rfl) dX5_line_103) (fun r15 v16 H locs hI hp14 => ?_)
          rw [show nI jx * nI 3 + nI 1 - nI 1 = nI (3 * jx) from ix3 jx 0, el_lt (by omega) (by decide)] at hp14
          subst hp14
          refine tI (hB.2.2 jx hljx).2.1 ?_
          exact rI hQ F (v := (u.1, u.2)) hI dX5_line_106 (by rw [a_line, withL_s hxx, withR_s hxy]; exact ⟨(show (if npK (X.1.2.2 jx).1 < 1 then NON else nI (X.1.2.2 jx).2.1) = nI (X.1.2.2 jx).2.1 from if_neg (by omega)).symm, hC, SameM.rf _⟩)
        · have h13 : npK (X.1.2.2 jx).1 < 1 := Nat.lt_of_not_le (fun q9 => h13 ((nI_leI (a := 1) (b := npK (X.1.2.2 jx).1) (by omega) (by omega)).mpr q9))
          refine zc F K_X5_81 dX5_line_92 ?_
          refine lv_goto (tgt := 106) hx hy dX5_line_94 (by decide) ?_
          exact rI hQ F (v := (u.1, u.2)) hI dX5_line_106 (by rw [a_line, withL_s hxx, withR_s hxy]; exact ⟨(show (if npK (X.1.2.2 jx).1 < 1 then NON else nI (X.1.2.2 jx).2.1) = NON from if_pos (by omega)).symm, hC, SameM.rf _⟩)
      · refine lv_tableIn (tgt := 77) hx hy dX5_line_15 (by decide) (by decide) (by rfl) (by decide) ?_
        refine lv_iload_n hx hy dX5_line_77 rfl (lv_at hl 2 rfl) ?_
        refine lv_aload_n hx hy dX5_line_78 rfl (lv_at hl 0 rfl) ?_
        refine gX5_bench F hI L_X5_10 dX5_line_79 ?_
        refine lv_iload_n hx hy dX5_line_82 rfl (lv_at hl 1 rfl) ?_
        refine zI hI (xV F hI hl (kX0_kindOf l E (u) (b := 0) (by decide) (nI jx)) M_X5_72 (rX0 F hI (b := 0) (by decide)) rfl ⟨Nat.le_of_ble_eq_true rfl, Nat.le_of_ble_eq_true rfl⟩ ⟨Nat.zero_le _, Nat.zero_le _⟩ rfl (Nat.le_of_ble_eq_true rfl) dX5_line_83) (fun r18 v19 H locs hI hp17 => ?_)
        rw [el_lt (by omega) (by decide)] at hp17
        subst hp17
        refine tI (hB.2.2 jx hljx).1 ?_
        refine zI hI (xS F hI hl (kX5_numbersOfKind l E (u) ((X.1.2.2 jx).1) (by omega)) M_X5_125 rfl ⟨Nat.le_of_ble_eq_true rfl, Nat.le_of_ble_eq_true rfl⟩ ⟨Nat.zero_le _, Nat.zero_le _⟩ rfl (Nat.le_of_ble_eq_true rfl) dX5_line_86) (fun r21 v22 H locs hI hp20 => ?_)
        subst hp20
        refine tI (tbl_np _ (by omega)) ?_
        have hnp := npK_le (X.1.2.2 jx).1 (by omega)
        refine lv_icmp_le (tgt := 97) hx hy dX5_line_89 (by decide) (fun h23 => ?_) (fun h23 => ?_)
        · have h23 : 2 ≤ npK (X.1.2.2 jx).1 := (nI_leI (a := 2) (b := npK (X.1.2.2 jx).1) (by omega) (by omega)).mp h23
          refine lv_aload_n hx hy dX5_line_97 rfl (lv_at hl 0 rfl) ?_
          refine gX5_bench F hI L_X5_10 dX5_line_98 ?_
          refine lv_iload_n hx hy dX5_line_101 rfl (lv_at hl 1 rfl) ?_
          refine lv_iload_n hx hy dX5_line_102 rfl (lv_at hl 2 rfl) ?_
          refine zI hI (xV F hI hl (kX0_numberOf l E (u) (b := 0) (by decide) (nI jx) (nI 2)) M_X5_77 (rX0 F hI (b := 0) (by decide)) rfl ⟨Nat.le_of_ble_eq_true rfl, Nat.le_of_ble_eq_true rfl⟩ ⟨Nat.zero_le _, Nat.zero_le _⟩ rfl (Nat.le_of_ble_eq_true rfl) dX5_line_103) (fun r25 v26 H locs hI hp24 => ?_)
          rw [show nI jx * nI 3 + nI 2 - nI 1 = nI (3 * jx + 1) from ix3 jx 1, el_lt (by omega) (by decide)] at hp24
          subst hp24
          refine tI (hB.2.2 jx hljx).2.2.1 ?_
          exact rI hQ F (v := (u.1, u.2)) hI dX5_line_106 (by rw [a_line, withL_s hxx, withR_s hxy]; exact ⟨(show (if npK (X.1.2.2 jx).1 < 2 then NON else nI (X.1.2.2 jx).2.2.1) = nI (X.1.2.2 jx).2.2.1 from if_neg (by omega)).symm, hC, SameM.rf _⟩)
        · have h23 : npK (X.1.2.2 jx).1 < 2 := Nat.lt_of_not_le (fun q9 => h23 ((nI_leI (a := 2) (b := npK (X.1.2.2 jx).1) (by omega) (by omega)).mpr q9))
          refine zc F K_X5_81 dX5_line_92 ?_
          refine lv_goto (tgt := 106) hx hy dX5_line_94 (by decide) ?_
          exact rI hQ F (v := (u.1, u.2)) hI dX5_line_106 (by rw [a_line, withL_s hxx, withR_s hxy]; exact ⟨(show (if npK (X.1.2.2 jx).1 < 2 then NON else nI (X.1.2.2 jx).2.2.1) = NON from if_pos (by omega)).symm, hC, SameM.rf _⟩)
      · refine lv_tableIn (tgt := 77) hx hy dX5_line_15 (by decide) (by decide) (by rfl) (by decide) ?_
        refine lv_iload_n hx hy dX5_line_77 rfl (lv_at hl 2 rfl) ?_
        refine lv_aload_n hx hy dX5_line_78 rfl (lv_at hl 0 rfl) ?_
        refine gX5_bench F hI L_X5_10 dX5_line_79 ?_
        refine lv_iload_n hx hy dX5_line_82 rfl (lv_at hl 1 rfl) ?_
        refine zI hI (xV F hI hl (kX0_kindOf l E (u) (b := 0) (by decide) (nI jx)) M_X5_72 (rX0 F hI (b := 0) (by decide)) rfl ⟨Nat.le_of_ble_eq_true rfl, Nat.le_of_ble_eq_true rfl⟩ ⟨Nat.zero_le _, Nat.zero_le _⟩ rfl (Nat.le_of_ble_eq_true rfl) dX5_line_83) (fun r28 v29 H locs hI hp27 => ?_)
        rw [el_lt (by omega) (by decide)] at hp27
        subst hp27
        refine tI (hB.2.2 jx hljx).1 ?_
        refine zI hI (xS F hI hl (kX5_numbersOfKind l E (u) ((X.1.2.2 jx).1) (by omega)) M_X5_125 rfl ⟨Nat.le_of_ble_eq_true rfl, Nat.le_of_ble_eq_true rfl⟩ ⟨Nat.zero_le _, Nat.zero_le _⟩ rfl (Nat.le_of_ble_eq_true rfl) dX5_line_86) (fun r31 v32 H locs hI hp30 => ?_)
        subst hp30
        refine tI (tbl_np _ (by omega)) ?_
        have hnp := npK_le (X.1.2.2 jx).1 (by omega)
        refine lv_icmp_le (tgt := 97) hx hy dX5_line_89 (by decide) (fun h33 => ?_) (fun h33 => ?_)
        · have h33 : 3 ≤ npK (X.1.2.2 jx).1 := (nI_leI (a := 3) (b := npK (X.1.2.2 jx).1) (by omega) (by omega)).mp h33
          refine lv_aload_n hx hy dX5_line_97 rfl (lv_at hl 0 rfl) ?_
          refine gX5_bench F hI L_X5_10 dX5_line_98 ?_
          refine lv_iload_n hx hy dX5_line_101 rfl (lv_at hl 1 rfl) ?_
          refine lv_iload_n hx hy dX5_line_102 rfl (lv_at hl 2 rfl) ?_
          refine zI hI (xV F hI hl (kX0_numberOf l E (u) (b := 0) (by decide) (nI jx) (nI 3)) M_X5_77 (rX0 F hI (b := 0) (by decide)) rfl ⟨Nat.le_of_ble_eq_true rfl, Nat.le_of_ble_eq_true rfl⟩ ⟨Nat.zero_le _, Nat.zero_le _⟩ rfl (Nat.le_of_ble_eq_true rfl) dX5_line_103) (fun r35 v36 H locs hI hp34 => ?_)
          rw [show nI jx * nI 3 + nI 3 - nI 1 = nI (3 * jx + 2) from ix3 jx 2, el_lt (by omega) (by decide)] at hp34
          subst hp34
          refine tI (hB.2.2 jx hljx).2.2.2 ?_
          exact rI hQ F (v := (u.1, u.2)) hI dX5_line_106 (by rw [a_line, withL_s hxx, withR_s hxy]; exact ⟨(show (if npK (X.1.2.2 jx).1 < 3 then NON else nI (X.1.2.2 jx).2.2.2) = nI (X.1.2.2 jx).2.2.2 from if_neg (by omega)).symm, hC, SameM.rf _⟩)
        · have h33 : npK (X.1.2.2 jx).1 < 3 := Nat.lt_of_not_le (fun q9 => h33 ((nI_leI (a := 3) (b := npK (X.1.2.2 jx).1) (by omega) (by omega)).mpr q9))
          refine zc F K_X5_81 dX5_line_92 ?_
          refine lv_goto (tgt := 106) hx hy dX5_line_94 (by decide) ?_
          exact rI hQ F (v := (u.1, u.2)) hI dX5_line_106 (by rw [a_line, withL_s hxx, withR_s hxy]; exact ⟨(show (if npK (X.1.2.2 jx).1 < 3 then NON else nI (X.1.2.2 jx).2.2.2) = NON from if_pos (by omega)).symm, hC, SameM.rf _⟩)
      · refine lv_tableIn (tgt := 107) hx hy dX5_line_15 (by decide) (by decide) (by rfl) (by decide) ?_
        refine lv_aload_n hx hy dX5_line_107 rfl (lv_at hl 0 rfl) ?_
        refine lv_iload_n hx hy dX5_line_108 rfl (lv_at hl 1 rfl) ?_
        refine lv_aload_n hx hy dX5_line_109 rfl (lv_at hl 0 rfl) ?_
        refine gX5_bench F hI L_X5_10 dX5_line_110 ?_
        refine gX0_length F hI (b := 0) (by decide) L_X5_97 dX5_line_113 ?_
        refine tI hB.1 ?_
        refine zI hI (xV F hI hl (kX5_onesOver l E (u) hC hX jx (by omega) (X.1.2.1) (by omega)) M_X5_128 (rX5 F hI) rfl ⟨Nat.le_of_ble_eq_true rfl, Nat.le_of_ble_eq_true rfl⟩ ⟨Nat.zero_le _, Nat.zero_le _⟩ rfl (Nat.le_of_ble_eq_true rfl) dX5_line_116) (fun r38 v39 H locs hI hp37 => ?_)
        have hpr := hp37.1
        have hps := hp37.2
        have hsc40 : Scr u.1 v39.1 := (Scr.rf _).tr hps
        have hCs41 := hsc40.rep hC
        have hBhCs41 : RepB 0 v39.1 X.1 := hCs41.1
        refine tI (show _ = nI (cnt X.1.2.2 jx (X.1.2.1)) from hpr) ?_
        exact rI hQ F (v := (v39.1, v39.2)) hI dX5_line_119 (by rw [a_line, withL_s hxx, withR_s hxy]; exact ⟨rfl, hsc40.rep hC, hsc40.m⟩)
      · refine lv_tableIn (tgt := 120) hx hy dX5_line_15 (by decide) (by decide) (by rfl) (by decide) ?_
        refine lv_aload_n hx hy dX5_line_120 rfl (lv_at hl 0 rfl) ?_
        refine lv_iload_n hx hy dX5_line_121 rfl (lv_at hl 1 rfl) ?_
        refine lv_aload_n hx hy dX5_line_122 rfl (lv_at hl 0 rfl) ?_
        refine gX5_bench F hI L_X5_10 dX5_line_123 ?_
        refine gX0_length F hI (b := 0) (by decide) L_X5_97 dX5_line_126 ?_
        refine tI hB.1 ?_
        refine zI hI (xV F hI hl (kX5_onesOver l E (u) hC hX jx (by omega) (X.1.2.1) (by omega)) M_X5_128 (rX5 F hI) rfl ⟨Nat.le_of_ble_eq_true rfl, Nat.le_of_ble_eq_true rfl⟩ ⟨Nat.zero_le _, Nat.zero_le _⟩ rfl (Nat.le_of_ble_eq_true rfl) dX5_line_129) (fun r43 v44 H locs hI hp42 => ?_)
        have hpr := hp42.1
        have hps := hp42.2
        have hsc45 : Scr u.1 v44.1 := (Scr.rf _).tr hps
        have hCs46 := hsc45.rep hC
        have hBhCs46 : RepB 0 v44.1 X.1 := hCs46.1
        refine tI (show _ = nI (cnt X.1.2.2 jx (X.1.2.1)) from hpr) ?_
        refine lv_aload_n hx hy dX5_line_132 rfl (lv_at hl 0 rfl) ?_
        refine gX5_bench F hI L_X5_10 dX5_line_133 ?_
        refine gX0_length F hI (b := 0) (by decide) L_X5_97 dX5_line_136 ?_
        refine tI (show _ = v44.1 1 0 from rfl) ?_
        refine tI hBhCs46.1 ?_
        have hcl := cnt_le X.1.2.2 jx X.1.2.1
        refine zI hI (xS F hI hl (kX5_shareOf l E (v44) (cnt X.1.2.2 jx (X.1.2.1)) (X.1.2.1) (by omega) (by omega) (by omega)) M_X5_131 rfl ⟨Nat.le_of_ble_eq_true rfl, Nat.le_of_ble_eq_true rfl⟩ ⟨Nat.zero_le _, Nat.zero_le _⟩ rfl (Nat.le_of_ble_eq_true rfl) dX5_line_139) (fun r48 v49 H locs hI hp47 => ?_)
        subst hp47
        exact rI hQ F (v := (v44.1, v44.2)) hI dX5_line_142 (by rw [a_line, withL_s hxx, withR_s hxy]; exact ⟨rfl, hsc45.rep hC, hsc45.m⟩)
      · refine lv_tableIn (tgt := 143) hx hy dX5_line_15 (by decide) (by decide) (by rfl) (by decide) ?_
        refine lv_aload_n hx hy dX5_line_143 rfl (lv_at hl 0 rfl) ?_
        refine gX5_figures F hI L_X5_43 dX5_line_144 ?_
        refine lv_aload_n hx hy dX5_line_147 rfl (lv_at hl 0 rfl) ?_
        refine gX5_bench F hI L_X5_10 dX5_line_148 ?_
        refine zV hI (xV F hI hl (kX2_workOut l E (u) (b := 0) (n := X.1.1) (f := X.1.2.2) (by decide) hB.2 hn16 hX.1.2.2.2) M_X5_134 (rX2 F hI) rfl ⟨Nat.le_of_ble_eq_true rfl, Nat.le_of_ble_eq_true rfl⟩ ⟨Nat.zero_le _, Nat.zero_le _⟩ rfl (Nat.le_of_ble_eq_true rfl) dX5_line_151) (fun v52 H locs hI hp50 => ?_)
        have hsc53 : Scr u.1 v52 := (Scr.rf _).tr hp50.2.scr
        have hCs54 := hsc53.rep hC
        have hBhCs54 : RepB 0 v52 X.1 := hCs54.1
        refine lv_aload_n hx hy dX5_line_154 rfl (lv_at hl 0 rfl) ?_
        refine gX5_figures F hI L_X5_43 dX5_line_155 ?_
        refine lv_iload_n hx hy dX5_line_158 rfl (lv_at hl 1 rfl) ?_
        refine zI hI (xV F hI hl (kX2_exactShareOf l E ((v52, u.2)) (nI jx)) M_X5_137 (rX2 F hI) rfl ⟨Nat.le_of_ble_eq_true rfl, Nat.le_of_ble_eq_true rfl⟩ ⟨Nat.zero_le _, Nat.zero_le _⟩ rfl (Nat.le_of_ble_eq_true rfl) dX5_line_159) (fun r56 v57 H locs hI hp55 => ?_)
        rw [el_lt (by omega) (by decide)] at hp55
        subst hp55
        refine tI (show _ = v52 3 jx from rfl) ?_
        refine tI (hp50.1.1 jx (by omega)) ?_
        exact rI hQ F (v := (v52, u.2)) hI dX5_line_162 (by rw [a_line, withL_s hxx, withR_s hxy]; exact ⟨rfl, hsc53.rep hC, hsc53.m⟩)
      · refine lv_tableIn (tgt := 163) hx hy dX5_line_15 (by decide) (by decide) (by rfl) (by decide) ?_
        refine lv_aload_n hx hy dX5_line_163 rfl (lv_at hl 0 rfl) ?_
        refine lv_iload_n hx hy dX5_line_164 rfl (lv_at hl 1 rfl) ?_
        refine lv_aload_n hx hy dX5_line_165 rfl (lv_at hl 0 rfl) ?_
        refine gX5_bench F hI L_X5_10 dX5_line_166 ?_
        refine gX0_length F hI (b := 0) (by decide) L_X5_97 dX5_line_169 ?_
        refine tI hB.1 ?_
        refine zI hI (xV F hI hl (kX5_errorOver l E (u) hC hX jx (by omega) (X.1.2.1) (by omega) (by omega)) M_X5_140 (rX5 F hI) rfl ⟨Nat.le_of_ble_eq_true rfl, Nat.le_of_ble_eq_true rfl⟩ ⟨Nat.zero_le _, Nat.zero_le _⟩ rfl (Nat.le_of_ble_eq_true rfl) dX5_line_172) (fun r59 v60 H locs hI hp58 => ?_)
        have hpr := hp58.1
        have hps := hp58.2
        have hsc61 : Scr u.1 v60.1 := (Scr.rf _).tr hps
        have hCs62 := hsc61.rep hC
        have hBhCs62 : RepB 0 v60.1 X.1 := hCs62.1
        refine tI (show _ = nI (errN X.1.2.2 jx (X.1.2.1)) from hpr) ?_
        exact rI hQ F (v := (v60.1, v60.2)) hI dX5_line_175 (by rw [a_line, withL_s hxx, withR_s hxy]; exact ⟨rfl, hsc61.rep hC, hsc61.m⟩)
      · refine lv_tableIn (tgt := 176) hx hy dX5_line_15 (by decide) (by decide) (by rfl) (by decide) ?_
        refine lv_aload_n hx hy dX5_line_176 rfl (lv_at hl 0 rfl) ?_
        refine gX5_figures F hI L_X5_43 dX5_line_177 ?_
        refine lv_aload_n hx hy dX5_line_180 rfl (lv_at hl 0 rfl) ?_
        refine gX5_bench F hI L_X5_10 dX5_line_181 ?_
        refine zV hI (xV F hI hl (kX2_workOut l E (u) (b := 0) (n := X.1.1) (f := X.1.2.2) (by decide) hB.2 hn16 hX.1.2.2.2) M_X5_134 (rX2 F hI) rfl ⟨Nat.le_of_ble_eq_true rfl, Nat.le_of_ble_eq_true rfl⟩ ⟨Nat.zero_le _, Nat.zero_le _⟩ rfl (Nat.le_of_ble_eq_true rfl) dX5_line_184) (fun v65 H locs hI hp63 => ?_)
        have hsc66 : Scr u.1 v65 := (Scr.rf _).tr hp63.2.scr
        have hCs67 := hsc66.rep hC
        have hBhCs67 : RepB 0 v65 X.1 := hCs67.1
        refine lv_aload_n hx hy dX5_line_187 rfl (lv_at hl 0 rfl) ?_
        refine gX5_figures F hI L_X5_43 dX5_line_188 ?_
        refine lv_iload_n hx hy dX5_line_191 rfl (lv_at hl 1 rfl) ?_
        refine zI hI (xV F hI hl (kX2_depthOf l E ((v65, u.2)) (nI jx)) M_X5_143 (rX2 F hI) rfl ⟨Nat.le_of_ble_eq_true rfl, Nat.le_of_ble_eq_true rfl⟩ ⟨Nat.zero_le _, Nat.zero_le _⟩ rfl (Nat.le_of_ble_eq_true rfl) dX5_line_192) (fun r69 v70 H locs hI hp68 => ?_)
        rw [el_lt (by omega) (by decide)] at hp68
        subst hp68
        refine tI (show _ = v65 4 jx from rfl) ?_
        refine tI (hp63.1.2.1 jx (by omega)) ?_
        exact rI hQ F (v := (v65, u.2)) hI dX5_line_195 (by rw [a_line, withL_s hxx, withR_s hxy]; exact ⟨rfl, hsc66.rep hC, hsc66.m⟩)
      · refine lv_tableIn (tgt := 196) hx hy dX5_line_15 (by decide) (by decide) (by rfl) (by decide) ?_
        refine lv_aload_n hx hy dX5_line_196 rfl (lv_at hl 0 rfl) ?_
        refine gX5_figures F hI L_X5_43 dX5_line_197 ?_
        refine lv_aload_n hx hy dX5_line_200 rfl (lv_at hl 0 rfl) ?_
        refine gX5_bench F hI L_X5_10 dX5_line_201 ?_
        refine zV hI (xV F hI hl (kX2_workOut l E (u) (b := 0) (n := X.1.1) (f := X.1.2.2) (by decide) hB.2 hn16 hX.1.2.2.2) M_X5_134 (rX2 F hI) rfl ⟨Nat.le_of_ble_eq_true rfl, Nat.le_of_ble_eq_true rfl⟩ ⟨Nat.zero_le _, Nat.zero_le _⟩ rfl (Nat.le_of_ble_eq_true rfl) dX5_line_204) (fun v73 H locs hI hp71 => ?_)
        have hsc74 : Scr u.1 v73 := (Scr.rf _).tr hp71.2.scr
        have hCs75 := hsc74.rep hC
        have hBhCs75 : RepB 0 v73 X.1 := hCs75.1
        refine lv_aload_n hx hy dX5_line_207 rfl (lv_at hl 0 rfl) ?_
        refine gX5_figures F hI L_X5_43 dX5_line_208 ?_
        refine lv_iload_n hx hy dX5_line_211 rfl (lv_at hl 1 rfl) ?_
        refine zI hI (xV F hI hl (kX2_sourcesOf l E ((v73, u.2)) (f := X.1.2.2) jx (by omega) (hp71.1.2.2 jx (by omega)) (og_lt hn16 hX.1.2.2.2 jx (by omega))) M_X5_146 (rX2 F hI) rfl ⟨Nat.le_of_ble_eq_true rfl, Nat.le_of_ble_eq_true rfl⟩ ⟨Nat.zero_le _, Nat.zero_le _⟩ rfl (Nat.le_of_ble_eq_true rfl) dX5_line_212) (fun r77 v78 H locs hI hp76 => ?_)
        subst hp76
        exact rI hQ F (v := (v73, u.2)) hI dX5_line_215 (by rw [a_line, withL_s hxx, withR_s hxy]; exact ⟨rfl, hsc74.rep hC, hsc74.m⟩)
set_option maxHeartbeats 400000 in
set_option maxRecDepth 100000 in
theorem kX5_count (l : Launch) (E : EV) (u : SS) {X : XS} (hC : RepC u.1 X) (hX : XOk X) (x : Int32) : CT l yX5_count cX5_count 2 (some .int) (Rm 7 165) [.ref (eA E 0), .int (x)] E u (Q_i E (fun r v => r = (a_count X x).1 ∧ RepC v.1 (a_count X x).2 ∧ SameM u.1 v.1) (fun (v : SS) => v)) := by
  refine mstart RX5 (by decide +kernel) rfl (Nat.le_of_ble_eq_true rfl) ?_
  intro p e s m args below meth co ls Q hQ F hI hl
  have hx := F.1
  have hy := F.2.1
  have hl : lv_has ls 2 [(0, .ref (eA E 0)), (1, .int (x))] := hl
  have hC2 := hC
  obtain ⟨hB, ⟨o, hH⟩, hS, hT⟩ := hC2
  have hn16 := hX.1.1
  have hl1 := hX.1.2.1
  have hl2 := hX.1.2.2.1
  have hh4 := hX.2.1.1
  have ht80 := hT.2.1
  refine lv_iload_n hx hy dX5_count_0 rfl (lv_at hl 1 rfl) ?_
  rcases rgO_cases 0 7 x (by decide) (by decide) with hxx | ⟨jx, hmjx, hljx, rfl, hxx⟩
  · refine lv_tableOut (tgt := 124) hx hy dX5_count_1 (rgO_out (by decide) (by decide) hxx) (by decide) ?_
    refine zc F K_X5_58 dX5_count_124 ?_
    exact rI hQ F (v := (u.1, u.2)) hI dX5_count_126 (by rw [a_count, withR_n hxx]; exact ⟨rfl, hC, SameM.rf _⟩)
  · rcases (show jx = 0 ∨ jx = 1 ∨ jx = 2 ∨ jx = 3 ∨ jx = 4 ∨ jx = 5 ∨ jx = 6 ∨ jx = 7 by omega) with rfl | rfl | rfl | rfl | rfl | rfl | rfl | rfl
    · refine lv_tableIn (tgt := 48) hx hy dX5_count_1 (by decide) (by decide) (by rfl) (by decide) ?_
      refine lv_aload_n hx hy dX5_count_48 rfl (lv_at hl 0 rfl) ?_
      refine gX5_bench F hI L_X5_10 dX5_count_49 ?_
      refine gX0_size F hI (b := 0) (by decide) L_X5_90 dX5_count_52 ?_
      refine tI hB.2.1 ?_
      exact rI hQ F (v := (u.1, u.2)) hI dX5_count_55 (by rw [a_count, withR_s hxx]; exact ⟨rfl, hC, SameM.rf _⟩)
    · refine lv_tableIn (tgt := 56) hx hy dX5_count_1 (by decide) (by decide) (by rfl) (by decide) ?_
      refine lv_aload_n hx hy dX5_count_56 rfl (lv_at hl 0 rfl) ?_
      refine gX5_bench F hI L_X5_10 dX5_count_57 ?_
      refine gX0_length F hI (b := 0) (by decide) L_X5_97 dX5_count_60 ?_
      refine tI hB.1 ?_
      exact rI hQ F (v := (u.1, u.2)) hI dX5_count_63 (by rw [a_count, withR_s hxx]; exact ⟨rfl, hC, SameM.rf _⟩)
    · refine lv_tableIn (tgt := 64) hx hy dX5_count_1 (by decide) (by decide) (by rfl) (by decide) ?_
      refine lv_aload_n hx hy dX5_count_64 rfl (lv_at hl 0 rfl) ?_
      refine gX5_bench F hI L_X5_10 dX5_count_65 ?_
      refine zI hI (xV F hI hl (kX0_sources l E (u) (b := 0) (by decide) (n := X.1.1) (f := X.1.2.2) hB.2 hn16 (fun j hj => (hX.1.2.2.2 j hj).1)) M_X5_177 (rX0 F hI (b := 0) (by decide)) rfl ⟨Nat.le_of_ble_eq_true rfl, Nat.le_of_ble_eq_true rfl⟩ ⟨Nat.zero_le _, Nat.zero_le _⟩ rfl (Nat.le_of_ble_eq_true rfl) dX5_count_68) (fun r2 v3 H locs hI hp1 => ?_)
      subst hp1
      exact rI hQ F (v := (u.1, u.2)) hI dX5_count_71 (by rw [a_count, withR_s hxx]; exact ⟨rfl, hC, SameM.rf _⟩)
    · refine lv_tableIn (tgt := 72) hx hy dX5_count_1 (by decide) (by decide) (by rfl) (by decide) ?_
      refine lv_aload_n hx hy dX5_count_72 rfl (lv_at hl 0 rfl) ?_
      refine zI hI (xV F hI hl (kX5_sumOfErrors l E (u) hC hX) M_X5_181 (rX5 F hI) rfl ⟨Nat.le_of_ble_eq_true rfl, Nat.le_of_ble_eq_true rfl⟩ ⟨Nat.zero_le _, Nat.zero_le _⟩ rfl (Nat.le_of_ble_eq_true rfl) dX5_count_73) (fun r5 v6 H locs hI hp4 => ?_)
      have hpr := hp4.1
      have hps := hp4.2
      have hsc7 : Scr u.1 v6.1 := (Scr.rf _).tr hps
      have hCs8 := hsc7.rep hC
      have hBhCs8 : RepB 0 v6.1 X.1 := hCs8.1
      refine tI (show _ = nI (sumE X.1.2.2 X.1.2.1 X.1.1) from hpr) ?_
      exact rI hQ F (v := (v6.1, v6.2)) hI dX5_count_76 (by rw [a_count, withR_s hxx]; exact ⟨rfl, hsc7.rep hC, hsc7.m⟩)
    · refine lv_tableIn (tgt := 77) hx hy dX5_count_1 (by decide) (by decide) (by rfl) (by decide) ?_
      refine lv_aload_n hx hy dX5_count_77 rfl (lv_at hl 0 rfl) ?_
      refine zI hI (xV F hI hl (kX5_lineWithGreatestError l E (u) hC hX) M_X5_184 (rX5 F hI) rfl ⟨Nat.le_of_ble_eq_true rfl, Nat.le_of_ble_eq_true rfl⟩ ⟨Nat.zero_le _, Nat.zero_le _⟩ rfl (Nat.le_of_ble_eq_true rfl) dX5_count_78) (fun r10 v11 H locs hI hp9 => ?_)
      have hpr := hp9.1
      have hps := hp9.2
      have hsc12 : Scr u.1 v11.1 := (Scr.rf _).tr hps
      have hCs13 := hsc12.rep hC
      have hBhCs13 : RepB 0 v11.1 X.1 := hCs13.1
      refine tI (show _ = wrI (wrst X.1.2.2 X.1.2.1 X.1.1) from hpr) ?_
      exact rI hQ F (v := (v11.1, v11.2)) hI dX5_count_81 (by rw [a_count, withR_s hxx]; exact ⟨rfl, hsc12.rep hC, hsc12.m⟩)
    · refine lv_tableIn (tgt := 82) hx hy dX5_count_1 (by decide) (by decide) (by rfl) (by decide) ?_
      refine lv_aload_n hx hy dX5_count_82 rfl (lv_at hl 0 rfl) ?_
      refine gX5_figures F hI L_X5_43 dX5_count_83 ?_
      refine lv_aload_n hx hy dX5_count_86 rfl (lv_at hl 0 rfl) ?_
      refine gX5_bench F hI L_X5_10 dX5_count_87 ?_
      refine zV hI (xV F hI hl (kX2_workOut l E (u) (b := 0) (n := X.1.1) (f := X.1.2.2) (by decide) hB.2 hn16 hX.1.2.2.2) M_X5_134 (rX2 F hI) rfl ⟨Nat.le_of_ble_eq_true rfl, Nat.le_of_ble_eq_true rfl⟩ ⟨Nat.zero_le _, Nat.zero_le _⟩ rfl (Nat.le_of_ble_eq_true rfl) dX5_count_90) (fun v16 H locs hI hp14 => ?_)
      have hsc17 : Scr u.1 v16 := (Scr.rf _).tr hp14.2.scr
      have hCs18 := hsc17.rep hC
      have hBhCs18 : RepB 0 v16 X.1 := hCs18.1
      refine lv_aload_n hx hy dX5_count_93 rfl (lv_at hl 0 rfl) ?_
      refine gX5_figures F hI L_X5_43 dX5_count_94 ?_
      refine lv_aload_n hx hy dX5_count_97 rfl (lv_at hl 0 rfl) ?_
      refine gX5_bench F hI L_X5_10 dX5_count_98 ?_
      refine gX0_size F hI (b := 0) (by decide) L_X5_90 dX5_count_101 ?_
      refine tI (show _ = v16 2 0 from rfl) ?_
      refine tI hBhCs18.2.1 ?_
      refine zI hI (xV F hI hl (kX2_greatestDepth l E ((v16, u.2)) (f := X.1.2.2) X.1.1 hn16 hp14.1.2.1 (fun a ha => by have := dp_le hX.1.2.2.2 a ha; omega)) M_X5_187 (rX2 F hI) rfl ⟨Nat.le_of_ble_eq_true rfl, Nat.le_of_ble_eq_true rfl⟩ ⟨Nat.zero_le _, Nat.zero_le _⟩ rfl (Nat.le_of_ble_eq_true rfl) dX5_count_104) (fun r20 v21 H locs hI hp19 => ?_)
      subst hp19
      exact rI hQ F (v := (v16, u.2)) hI dX5_count_107 (by rw [a_count, withR_s hxx]; exact ⟨rfl, hsc17.rep hC, hsc17.m⟩)
    · refine lv_tableIn (tgt := 108) hx hy dX5_count_1 (by decide) (by decide) (by rfl) (by decide) ?_
      refine lv_aload_n hx hy dX5_count_108 rfl (lv_at hl 0 rfl) ?_
      refine gX5_history F hI L_X5_29 dX5_count_109 ?_
      refine gX3_size F hI L_X5_118 dX5_count_112 ?_
      refine tI hH.2.2.1 ?_
      exact rI hQ F (v := (u.1, u.2)) hI dX5_count_115 (by rw [a_count, withR_s hxx]; exact ⟨rfl, hC, SameM.rf _⟩)
    · refine lv_tableIn (tgt := 116) hx hy dX5_count_1 (by decide) (by decide) (by rfl) (by decide) ?_
      refine lv_aload_n hx hy dX5_count_116 rfl (lv_at hl 0 rfl) ?_
      refine gX5_text F hI L_X5_36 dX5_count_117 ?_
      refine gX1_size F hI L_X5_113 dX5_count_120 ?_
      refine tI hT.1 ?_
      exact rI hQ F (v := (u.1, u.2)) hI dX5_count_123 (by rw [a_count, withR_s hxx]; exact ⟨rfl, hC, SameM.rf _⟩)
