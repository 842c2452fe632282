set_option maxHeartbeats 400000 in
set_option maxRecDepth 100000 in
theorem kX6_errorAt (l : Launch) (E : EV) (u : SS) {X : XS} (hC : RepM u.1 X) (hX : XOk X) (x y : Int32) : CT l yX6_errorAt cX6_errorAt 3 (some .int) (Rm 4 92) [.ref (eA E 48), .int (x), .int (y)] E u (Q_i E (fun r v => r = (a_errorAt X x y).1 ∧ RepM v.1 (a_errorAt X x y).2 ∧ SameC u.1 v.1) (fun (v : SS) => v)) := by
  refine mstart RX6 (by decide +kernel) rfl (Nat.le_of_ble_eq_true rfl) ?_
  intro p e s m args below meth co ls Q hQ F hI hl
  have hx := F.1
  have hy := F.2.1
  have hl : lv_has ls 3 [(0, .ref (eA E 48)), (1, .int (x)), (2, .int (y))] := hl
  have hC2 := hC
  obtain ⟨hA, hH, hS, hT⟩ := hC2
  have hn16 := hX.1.1
  have hl1 := hX.1.2.1
  have hl2 := hX.1.2.2.1
  have hh4 := hX.2.1.1
  have hs1 := hX.2.2.1.1
  have ht80 := hX.2.2.2.1
  refine lv_aload_n hx hy dX6_errorAt_0 rfl (lv_at hl 0 rfl) ?_
  refine lv_iload_n hx hy dX6_errorAt_1 rfl (lv_at hl 1 rfl) ?_
  refine zI hI (xV F hI hl (kX6_isLine l E (u) (n := X.1.1) hA.1 (by omega) x) M_X6_91 (rX6 F hI) rfl ⟨Nat.le_of_ble_eq_true rfl, Nat.le_of_ble_eq_true rfl⟩ ⟨Nat.zero_le _, Nat.zero_le _⟩ rfl (Nat.le_of_ble_eq_true rfl) dX6_errorAt_2) (fun r2 v3 H locs hI hp1 => ?_)
  rcases ixO_cases X.1.1 x (by omega) with hxx | ⟨jx, hljx, rfl, hxx⟩
  · have hp1 : r2 = 0 := hp1.trans (by rw [hxx]; rfl)
    subst hp1
    refine lv_if_ne (tgt := 11) hx hy dX6_errorAt_5 (by decide) (fun q => absurd q (by decide)) (fun _ => ?_)
    refine zc F K_X6_95 dX6_errorAt_8 ?_
    exact rI hQ F (v := (u.1, u.2)) hI dX6_errorAt_10 (by rw [a_errorAt, withL_n hxx]; exact ⟨rfl, hC, SameC.rf _⟩)
  · have hp1 : r2 = 1 := hp1.trans (by rw [hxx]; rfl)
    subst hp1
    have hokjx := hX.1.2.2.2 jx hljx
    have hk6jx := hokjx.1
    have hB9jx := hokjx.2.2.2.2.2.2.1
    have hC9jx := hokjx.2.2.2.2.2.2.2
    refine lv_if_ne (tgt := 11) hx hy dX6_errorAt_5 (by decide) (fun _ => ?_) (fun q => absurd q (by decide))
    refine lv_iload_n hx hy dX6_errorAt_11 rfl (lv_at hl 2 rfl) ?_
    refine lv_i2l (v := Int32.toInt64 y) hx hy dX6_errorAt_12 rfl ?_
    refine lv_lconst (v := lN 1) hx hy dX6_errorAt_13 (by decide) ?_
    refine zcl F K_X6_105 dX6_errorAt_14 ?_
    refine tL (show _ = lN 1000 from rfl) ?_
    refine zI hI (xS F hI hl (kX6_in l E (u) (Int32.toInt64 y) (lN 1) (lN 1000)) M_X6_65 rfl ⟨Nat.le_of_ble_eq_true rfl, Nat.le_of_ble_eq_true rfl⟩ ⟨Nat.zero_le _, Nat.zero_le _⟩ rfl (Nat.le_of_ble_eq_true rfl) dX6_errorAt_17) (fun r5 v6 H locs hI hp4 => ?_)
    rcases rgO_cases 1 1000 y (by decide) (by decide) with hxy | ⟨jy, hmjy, hljy, rfl, hxy⟩
    · have hp4 : r5 = 0 := hp4.trans (if_neg (fun q9 => by have q8 := (in_rg (a := 1) (b := 1000) (by decide) (by decide) y).mp q9; rw [hxy] at q8; cases q8))
      subst hp4
      refine lv_if_eq (tgt := 32) hx hy dX6_errorAt_20 (by decide) (fun _ => ?_) (fun q => absurd q (by decide))
      refine zc F K_X6_90 dX6_errorAt_32 ?_
      exact rI hQ F (v := (u.1, u.2)) hI dX6_errorAt_34 (by rw [a_errorAt, withL_s hxx, withR_n hxy]; exact ⟨rfl, hC, SameC.rf _⟩)
    · have hp4 : r5 = 1 := hp4.trans (if_pos ((in_rg (a := 1) (b := 1000) (by decide) (by decide) (nI jy)).mpr (by rw [hxy]; rfl)))
      subst hp4
      refine lv_if_eq (tgt := 32) hx hy dX6_errorAt_20 (by decide) (fun q => absurd q (by decide)) (fun _ => ?_)
      refine lv_aload_n hx hy dX6_errorAt_23 rfl (lv_at hl 0 rfl) ?_
      refine lv_iload_n hx hy dX6_errorAt_24 rfl (lv_at hl 1 rfl) ?_
      refine lv_iload_n hx hy dX6_errorAt_25 rfl (lv_at hl 2 rfl) ?_
      refine zI hI (xV F hI hl (kX6_errorOf l E (u) (z := X.1) hA hX.1 jx jy (by omega) (by omega) (by omega)) M_X6_203 (rX6 F hI) rfl ⟨Nat.le_of_ble_eq_true rfl, Nat.le_of_ble_eq_true rfl⟩ ⟨Nat.zero_le _, Nat.zero_le _⟩ rfl (Nat.le_of_ble_eq_true rfl) dX6_errorAt_26) (fun r8 v9 H locs hI hp7 => ?_)
      obtain ⟨hpr10, hqo11⟩ := hp7
      have hsc12 : ScrM u.1 v9 := (ScrM.rf _).tr hqo11.scr
      have hCs13 := ScrM.rep hC hX hsc12
      have hAhCs13 : RowM v9 41 0 X.1 := hCs13.1
      refine tI (show _ = nI (errN X.1.2.2 jx jy) from hpr10) ?_
      refine lv_goto (tgt := 34) hx hy dX6_errorAt_29 (by decide) ?_
      exact rI hQ F (v := (v9, u.2)) hI dX6_errorAt_34 (by rw [a_errorAt, withL_s hxx, withR_s hxy]; exact ⟨rfl, ScrM.rep hC hX hsc12, hsc12.c⟩)
set_option maxHeartbeats 400000 in
set_option maxRecDepth 100000 in
theorem kX6_bit (l : Launch) (E : EV) (u : SS) {X : XS} (hC : RepM u.1 X) (hX : XOk X) (x y : Int32) : CT l yX6_bit cX6_bit 3 (some .int) (Rm 3 70) [.ref (eA E 48), .int (x), .int (y)] E u (Q_i E (fun r v => r = (a_bit X x y).1 ∧ RepM v.1 (a_bit X x y).2 ∧ SameC u.1 v.1) (fun (v : SS) => v)) := by
  refine mstart RX6 (by decide +kernel) rfl (Nat.le_of_ble_eq_true rfl) ?_
  intro p e s m args below meth co ls Q hQ F hI hl
  have hx := F.1
  have hy := F.2.1
  have hl : lv_has ls 3 [(0, .ref (eA E 48)), (1, .int (x)), (2, .int (y))] := hl
  have hC2 := hC
  obtain ⟨hA, hH, hS, hT⟩ := hC2
  have hn16 := hX.1.1
  have hl1 := hX.1.2.1
  have hl2 := hX.1.2.2.1
  have hh4 := hX.2.1.1
  have hs1 := hX.2.2.1.1
  have ht80 := hX.2.2.2.1
  refine lv_aload_n hx hy dX6_bit_0 rfl (lv_at hl 0 rfl) ?_
  refine lv_iload_n hx hy dX6_bit_1 rfl (lv_at hl 1 rfl) ?_
  refine zI hI (xV F hI hl (kX6_isLine l E (u) (n := X.1.1) hA.1 (by omega) x) M_X6_91 (rX6 F hI) rfl ⟨Nat.le_of_ble_eq_true rfl, Nat.le_of_ble_eq_true rfl⟩ ⟨Nat.zero_le _, Nat.zero_le _⟩ rfl (Nat.le_of_ble_eq_true rfl) dX6_bit_2) (fun r2 v3 H locs hI hp1 => ?_)
  rcases ixO_cases X.1.1 x (by omega) with hxx | ⟨jx, hljx, rfl, hxx⟩
  · have hp1 : r2 = 0 := hp1.trans (by rw [hxx]; rfl)
    subst hp1
    refine lv_if_ne (tgt := 11) hx hy dX6_bit_5 (by decide) (fun q => absurd q (by decide)) (fun _ => ?_)
    refine zc F K_X6_95 dX6_bit_8 ?_
    exact rI hQ F (v := (u.1, u.2)) hI dX6_bit_10 (by rw [a_bit, withL_n hxx]; exact ⟨rfl, hC, SameC.rf _⟩)
  · have hp1 : r2 = 1 := hp1.trans (by rw [hxx]; rfl)
    subst hp1
    have hokjx := hX.1.2.2.2 jx hljx
    have hk6jx := hokjx.1
    have hB9jx := hokjx.2.2.2.2.2.2.1
    have hC9jx := hokjx.2.2.2.2.2.2.2
    refine lv_if_ne (tgt := 11) hx hy dX6_bit_5 (by decide) (fun _ => ?_) (fun q => absurd q (by decide))
    refine lv_iload_n hx hy dX6_bit_11 rfl (lv_at hl 2 rfl) ?_
    refine lv_i2l (v := Int32.toInt64 y) hx hy dX6_bit_12 rfl ?_
    refine lv_lconst (v := lN 0) hx hy dX6_bit_13 (by decide) ?_
    refine zcl F K_X6_201 dX6_bit_14 ?_
    refine tL (show _ = lN 999 from rfl) ?_
    refine zI hI (xS F hI hl (kX6_in l E (u) (Int32.toInt64 y) (lN 0) (lN 999)) M_X6_65 rfl ⟨Nat.le_of_ble_eq_true rfl, Nat.le_of_ble_eq_true rfl⟩ ⟨Nat.zero_le _, Nat.zero_le _⟩ rfl (Nat.le_of_ble_eq_true rfl) dX6_bit_17) (fun r5 v6 H locs hI hp4 => ?_)
    rcases rgO_cases 0 999 y (by decide) (by decide) with hxy | ⟨jy, hmjy, hljy, rfl, hxy⟩
    · have hp4 : r5 = 0 := hp4.trans (if_neg (fun q9 => by have q8 := (in_rg (a := 0) (b := 999) (by decide) (by decide) y).mp q9; rw [hxy] at q8; cases q8))
      subst hp4
      refine lv_if_ne (tgt := 26) hx hy dX6_bit_20 (by decide) (fun q => absurd q (by decide)) (fun _ => ?_)
      refine zc F K_X6_90 dX6_bit_23 ?_
      exact rI hQ F (v := (u.1, u.2)) hI dX6_bit_25 (by rw [a_bit, withL_s hxx, withR_n hxy]; exact ⟨rfl, hC, SameC.rf _⟩)
    · have hp4 : r5 = 1 := hp4.trans (if_pos ((in_rg (a := 0) (b := 999) (by decide) (by decide) (nI jy)).mpr (by rw [hxy]; rfl)))
      subst hp4
      refine lv_if_ne (tgt := 26) hx hy dX6_bit_20 (by decide) (fun _ => ?_) (fun q => absurd q (by decide))
      refine lv_aload_n hx hy dX6_bit_26 rfl (lv_at hl 0 rfl) ?_
      refine lv_iload_n hx hy dX6_bit_27 rfl (lv_at hl 1 rfl) ?_
      refine lv_iload_n hx hy dX6_bit_28 rfl (lv_at hl 2 rfl) ?_
      refine lv_iconst (v := nI 1) hx hy dX6_bit_29 (by decide) ?_
      refine lv_iadd hx hy dX6_bit_30 ?_
      refine tI (nI_add (jy) (1)) ?_
      refine zV hI (xV F hI hl (kX6_lays l E (u) (z := X.1) hA hX.1 jx (jy + 1) (by omega) (by omega)) M_X6_125 (rX6 F hI) rfl ⟨Nat.le_of_ble_eq_true rfl, Nat.le_of_ble_eq_true rfl⟩ ⟨Nat.zero_le _, Nat.zero_le _⟩ rfl (Nat.le_of_ble_eq_true rfl) dX6_bit_31) (fun v9 H locs hI hp7 => ?_)
      have hsc10 : ScrM u.1 v9 := (ScrM.rf _).tr hp7.2.qo.scr
      have hCs11 := ScrM.rep hC hX hsc10
      have hAhCs11 : RowM v9 41 0 X.1 := hCs11.1
      have hbt12 : ∀ a, a < jx + 1 → BitM X.1.2.2 a (jy + 1) v9 := hp7.1
      refine lv_aload_n hx hy dX6_bit_34 rfl (lv_at hl 0 rfl) ?_
      refine lv_iload_n hx hy dX6_bit_35 rfl (lv_at hl 1 rfl) ?_
      refine lv_iload_n hx hy dX6_bit_36 rfl (lv_at hl 2 rfl) ?_
      refine zI hI (xV F hI hl (kX6_bitAt l E ((v9, u.2)) jx jy (by omega) (by omega)) M_X6_107 (rX6 F hI) rfl ⟨Nat.le_of_ble_eq_true rfl, Nat.le_of_ble_eq_true rfl⟩ ⟨Nat.zero_le _, Nat.zero_le _⟩ rfl (Nat.le_of_ble_eq_true rfl) dX6_bit_37) (fun r14 v15 H locs hI hp13 => ?_)
      subst hp13
      refine tI (show _ = v9 45 (1000 * jx + jy) from rfl) ?_
      refine tI (show _ = nI (bN (bt X.1.2.2 jx jy)) from (hbt12 jx (by omega) (jy) (by omega))) ?_
      exact rI hQ F (v := (v9, u.2)) hI dX6_bit_40 (by rw [a_bit, withL_s hxx, withR_s hxy]; exact ⟨rfl, ScrM.rep hC hX hsc10, hsc10.c⟩)
set_option maxHeartbeats 400000 in
set_option maxRecDepth 100000 in
theorem kX6_line (l : Launch) (E : EV) (u : SS) {X : XS} (hC : RepM u.1 X) (hX : XOk X) (x y : Int32) : CT l yX6_line cX6_line 5 (some .int) (Rm 3 70) [.ref (eA E 48), .int (x), .int (y)] E u (Q_i E (fun r v => r = (a_line X x y).1 ∧ RepM v.1 (a_line X x y).2 ∧ SameC u.1 v.1) (fun (v : SS) => v)) := by
  refine mstart RX6 (by decide +kernel) rfl (Nat.le_of_ble_eq_true rfl) ?_
  intro p e s m args below meth co ls Q hQ F hI hl
  have hx := F.1
  have hy := F.2.1
  have hl : lv_has ls 5 [(0, .ref (eA E 48)), (1, .int (x)), (2, .int (y))] := hl
  have hC2 := hC
  obtain ⟨hA, hH, hS, hT⟩ := hC2
  have hn16 := hX.1.1
  have hl1 := hX.1.2.1
  have hl2 := hX.1.2.2.1
  have hh4 := hX.2.1.1
  have hs1 := hX.2.2.1.1
  have ht80 := hX.2.2.2.1
  refine lv_aload_n hx hy dX6_line_0 rfl (lv_at hl 0 rfl) ?_
  refine lv_iload_n hx hy dX6_line_1 rfl (lv_at hl 1 rfl) ?_
  refine zI hI (xV F hI hl (kX6_isLine l E (u) (n := X.1.1) hA.1 (by omega) x) M_X6_91 (rX6 F hI) rfl ⟨Nat.le_of_ble_eq_true rfl, Nat.le_of_ble_eq_true rfl⟩ ⟨Nat.zero_le _, Nat.zero_le _⟩ rfl (Nat.le_of_ble_eq_true rfl) dX6_line_2) (fun r2 v3 H locs hI hp1 => ?_)
  rcases ixO_cases X.1.1 x (by omega) with hxx | ⟨jx, hljx, rfl, hxx⟩
  · have hp1 : r2 = 0 := hp1.trans (by rw [hxx]; rfl)
    subst hp1
    refine lv_if_ne (tgt := 11) hx hy dX6_line_5 (by decide) (fun q => absurd q (by decide)) (fun _ => ?_)
    refine zc F K_X6_95 dX6_line_8 ?_
    exact rI hQ F (v := (u.1, u.2)) hI dX6_line_10 (by rw [a_line, withL_n hxx]; exact ⟨rfl, hC, SameC.rf _⟩)
  · have hp1 : r2 = 1 := hp1.trans (by rw [hxx]; rfl)
    subst hp1
    have hokjx := hX.1.2.2.2 jx hljx
    have hk6jx := hokjx.1
    have hB9jx := hokjx.2.2.2.2.2.2.1
    have hC9jx := hokjx.2.2.2.2.2.2.2
    refine lv_if_ne (tgt := 11) hx hy dX6_line_5 (by decide) (fun _ => ?_) (fun q => absurd q (by decide))
    refine lv_iload_n hx hy dX6_line_11 rfl (lv_at hl 2 rfl) ?_
    refine lv_i2l (v := Int32.toInt64 y) hx hy dX6_line_12 rfl ?_
    refine lv_lconst (v := lN 0) hx hy dX6_line_13 (by decide) ?_
    refine zcl F K_X6_193 dX6_line_14 ?_
    refine tL (show _ = lN 9 from rfl) ?_
    refine zI hI (xS F hI hl (kX6_in l E (u) (Int32.toInt64 y) (lN 0) (lN 9)) M_X6_65 rfl ⟨Nat.le_of_ble_eq_true rfl, Nat.le_of_ble_eq_true rfl⟩ ⟨Nat.zero_le _, Nat.zero_le _⟩ rfl (Nat.le_of_ble_eq_true rfl) dX6_line_17) (fun r5 v6 H locs hI hp4 => ?_)
    rcases rgO_cases 0 9 y (by decide) (by decide) with hxy | ⟨jy, hmjy, hljy, rfl, hxy⟩
    · have hp4 : r5 = 0 := hp4.trans (if_neg (fun q9 => by have q8 := (in_rg (a := 0) (b := 9) (by decide) (by decide) y).mp q9; rw [hxy] at q8; cases q8))
      subst hp4
      refine lv_if_ne (tgt := 26) hx hy dX6_line_20 (by decide) (fun q => absurd q (by decide)) (fun _ => ?_)
      refine zc F K_X6_90 dX6_line_23 ?_
      exact rI hQ F (v := (u.1, u.2)) hI dX6_line_25 (by rw [a_line, withL_s hxx, withR_n hxy]; exact ⟨rfl, hC, SameC.rf _⟩)
    · have hp4 : r5 = 1 := hp4.trans (if_pos ((in_rg (a := 0) (b := 9) (by decide) (by decide) (nI jy)).mpr (by rw [hxy]; rfl)))
      subst hp4
      refine lv_if_ne (tgt := 26) hx hy dX6_line_20 (by decide) (fun _ => ?_) (fun q => absurd q (by decide))
      rcases (show jy = 0 ∨ jy = 1 ∨ jy = 2 ∨ jy = 3 ∨ jy = 4 ∨ jy = 5 ∨ jy = 6 ∨ jy = 7 ∨ jy = 8 ∨ jy = 9 by omega) with rfl | rfl | rfl | rfl | rfl | rfl | rfl | rfl | rfl | rfl
      · refine lv_iload_n hx hy dX6_line_26 rfl (lv_at hl 2 rfl) ?_
        refine lv_iconst (v := nI 4) hx hy dX6_line_27 (by decide) ?_
        refine lv_icmp_ge (tgt := 38) hx hy dX6_line_28 (by decide) (fun q => absurd q (by decide)) (fun _ => ?_)
        refine lv_aload_n hx hy dX6_line_31 rfl (lv_at hl 0 rfl) ?_
        refine lv_iload_n hx hy dX6_line_32 rfl (lv_at hl 1 rfl) ?_
        refine lv_iload_n hx hy dX6_line_33 rfl (lv_at hl 2 rfl) ?_
        refine zI hI (xV F hI hl (kX6_of l E (u) jx 0 (by omega) (by omega)) M_X6_100 (rX6 F hI) rfl ⟨Nat.le_of_ble_eq_true rfl, Nat.le_of_ble_eq_true rfl⟩ ⟨Nat.zero_le _, Nat.zero_le _⟩ rfl (Nat.le_of_ble_eq_true rfl) dX6_line_34) (fun r8 v9 H locs hI hp7 => ?_)
        subst hp7
        refine tI (RowM.k hA hljx) ?_
        exact rI hQ F (v := (u.1, u.2)) hI dX6_line_37 (by rw [a_line, withL_s hxx, withR_s hxy]; exact ⟨rfl, hC, SameC.rf _⟩)
      · refine lv_iload_n hx hy dX6_line_26 rfl (lv_at hl 2 rfl) ?_
        refine lv_iconst (v := nI 4) hx hy dX6_line_27 (by decide) ?_
        refine lv_icmp_ge (tgt := 38) hx hy dX6_line_28 (by decide) (fun q => absurd q (by decide)) (fun _ => ?_)
        refine lv_aload_n hx hy dX6_line_31 rfl (lv_at hl 0 rfl) ?_
        refine lv_iload_n hx hy dX6_line_32 rfl (lv_at hl 1 rfl) ?_
        refine lv_iload_n hx hy dX6_line_33 rfl (lv_at hl 2 rfl) ?_
        refine zI hI (xV F hI hl (kX6_of l E (u) jx 1 (by omega) (by omega)) M_X6_100 (rX6 F hI) rfl ⟨Nat.le_of_ble_eq_true rfl, Nat.le_of_ble_eq_true rfl⟩ ⟨Nat.zero_le _, Nat.zero_le _⟩ rfl (Nat.le_of_ble_eq_true rfl) dX6_line_34) (fun r11 v12 H locs hI hp10 => ?_)
        subst hp10
        refine tI (RowM.w1 hA hljx) ?_
        exact rI hQ F (v := (u.1, u.2)) hI dX6_line_37 (by rw [a_line, withL_s hxx, withR_s hxy]; exact ⟨rfl, hC, SameC.rf _⟩)
      · refine lv_iload_n hx hy dX6_line_26 rfl (lv_at hl 2 rfl) ?_
        refine lv_iconst (v := nI 4) hx hy dX6_line_27 (by decide) ?_
        refine lv_icmp_ge (tgt := 38) hx hy dX6_line_28 (by decide) (fun q => absurd q (by decide)) (fun _ => ?_)
        refine lv_aload_n hx hy dX6_line_31 rfl (lv_at hl 0 rfl) ?_
        refine lv_iload_n hx hy dX6_line_32 rfl (lv_at hl 1 rfl) ?_
        refine lv_iload_n hx hy dX6_line_33 rfl (lv_at hl 2 rfl) ?_
        refine zI hI (xV F hI hl (kX6_of l E (u) jx 2 (by omega) (by omega)) M_X6_100 (rX6 F hI) rfl ⟨Nat.le_of_ble_eq_true rfl, Nat.le_of_ble_eq_true rfl⟩ ⟨Nat.zero_le _, Nat.zero_le _⟩ rfl (Nat.le_of_ble_eq_true rfl) dX6_line_34) (fun r14 v15 H locs hI hp13 => ?_)
        subst hp13
        refine tI (RowM.w2 hA hljx) ?_
        exact rI hQ F (v := (u.1, u.2)) hI dX6_line_37 (by rw [a_line, withL_s hxx, withR_s hxy]; exact ⟨rfl, hC, SameC.rf _⟩)
      · refine lv_iload_n hx hy dX6_line_26 rfl (lv_at hl 2 rfl) ?_
        refine lv_iconst (v := nI 4) hx hy dX6_line_27 (by decide) ?_
        refine lv_icmp_ge (tgt := 38) hx hy dX6_line_28 (by decide) (fun q => absurd q (by decide)) (fun _ => ?_)
        refine lv_aload_n hx hy dX6_line_31 rfl (lv_at hl 0 rfl) ?_
        refine lv_iload_n hx hy dX6_line_32 rfl (lv_at hl 1 rfl) ?_
        refine lv_iload_n hx hy dX6_line_33 rfl (lv_at hl 2 rfl) ?_
        refine zI hI (xV F hI hl (kX6_of l E (u) jx 3 (by omega) (by omega)) M_X6_100 (rX6 F hI) rfl ⟨Nat.le_of_ble_eq_true rfl, Nat.le_of_ble_eq_true rfl⟩ ⟨Nat.zero_le _, Nat.zero_le _⟩ rfl (Nat.le_of_ble_eq_true rfl) dX6_line_34) (fun r17 v18 H locs hI hp16 => ?_)
        subst hp16
        refine tI (RowM.w3 hA hljx) ?_
        exact rI hQ F (v := (u.1, u.2)) hI dX6_line_37 (by rw [a_line, withL_s hxx, withR_s hxy]; exact ⟨rfl, hC, SameC.rf _⟩)
      · refine lv_iload_n hx hy dX6_line_26 rfl (lv_at hl 2 rfl) ?_
        refine lv_iconst (v := nI 4) hx hy dX6_line_27 (by decide) ?_
        refine lv_icmp_ge (tgt := 38) hx hy dX6_line_28 (by decide) (fun _ => ?_) (fun q => absurd q (by decide))
        refine lv_aload_n hx hy dX6_line_38 rfl (lv_at hl 0 rfl) ?_
        refine gX6_all F hI L_X6_7 dX6_line_39 ?_
        refine lv_iconst (v := nI 1) hx hy dX6_line_42 (by decide) ?_
        refine aIlN F hI iX6_all (i := 1) (by omega) (by decide) dX6_line_43 ?_
        refine tI hA.2.1 ?_
        refine lv_istore_n (lv' := [(3, .int (nI (X.1.2.1))), (0, .ref (eA E 48)), (1, .int (nI jx)), (2, .int (nI 4))]) hx hy dX6_line_44 rfl hl (by decide) rfl (fun ls hl => ?_)
        refine lv_aload_n hx hy dX6_line_45 rfl (lv_at hl 1 rfl) ?_
        refine lv_iload_n hx hy dX6_line_46 rfl (lv_at hl 2 rfl) ?_
        refine lv_iload_n hx hy dX6_line_47 rfl (lv_at hl 0 rfl) ?_
        refine zV hI (xV F hI hl (kX6_lays l E (u) (z := X.1) hA hX.1 jx (X.1.2.1) (by omega) (by omega)) M_X6_125 (rX6 F hI) rfl ⟨Nat.le_of_ble_eq_true rfl, Nat.le_of_ble_eq_true rfl⟩ ⟨Nat.zero_le _, Nat.zero_le _⟩ rfl (Nat.le_of_ble_eq_true rfl) dX6_line_48) (fun v21 H locs hI hp19 => ?_)
        have hsc22 : ScrM u.1 v21 := (ScrM.rf _).tr hp19.2.qo.scr
        have hCs23 := ScrM.rep hC hX hsc22
        have hAhCs23 : RowM v21 41 0 X.1 := hCs23.1
        have hbt24 : ∀ a, a < jx + 1 → BitM X.1.2.2 a (X.1.2.1) v21 := hp19.1
        refine lv_aload_n hx hy dX6_line_51 rfl (lv_at hl 1 rfl) ?_
        refine lv_iload_n hx hy dX6_line_52 rfl (lv_at hl 2 rfl) ?_
        refine zV hI (xV F hI hl (kX6_findsExact l E ((v21, u.2)) (z := X.1) hAhCs23 hX.1 jx (by omega)) M_X6_129 (rX6 F hI) rfl ⟨Nat.le_of_ble_eq_true rfl, Nat.le_of_ble_eq_true rfl⟩ ⟨Nat.zero_le _, Nat.zero_le _⟩ rfl (Nat.le_of_ble_eq_true rfl) dX6_line_53) (fun v27 H locs hI hp25 => ?_)
        have hsc28 : ScrM u.1 v27 := hsc22.tr (QO.scr (fun q i _ _ h => hp25.2 q i h))
        have hCs29 := ScrM.rep hC hX hsc28
        have hAhCs29 : RowM v27 41 0 X.1 := hCs29.1
        have hbt30 : ∀ a, a < jx + 1 → BitM X.1.2.2 a (X.1.2.1) v27 := fun a ha => (hbt24 a ha).keep (fun i => hp25.2 45 i (by decide))
        refine lv_aload_n hx hy dX6_line_56 rfl (lv_at hl 1 rfl) ?_
        refine zV hI (xV F hI hl (kX6_findsDepths l E ((v27, u.2)) (z := X.1) hAhCs29 hX.1) M_X6_195 (rX6 F hI) rfl ⟨Nat.le_of_ble_eq_true rfl, Nat.le_of_ble_eq_true rfl⟩ ⟨Nat.zero_le _, Nat.zero_le _⟩ rfl (Nat.le_of_ble_eq_true rfl) dX6_line_57) (fun v33 H locs hI hp31 => ?_)
        have hsc34 : ScrM u.1 v33 := hsc28.tr (hp31).scr
        have hCs35 := ScrM.rep hC hX hsc34
        have hAhCs35 : RowM v33 41 0 X.1 := hCs35.1
        have hbt36 : ∀ a, a < jx + 1 → BitM X.1.2.2 a (X.1.2.1) v33 := fun a ha => (hbt30 a ha).keep (fun i => hp31.2 45 i (by decide) (by decide))
        have hex37 : v33 47 jx = nI (ex X.1.2.2 jx) := (hp31.2 _ _ (by decide) (by decide)).trans (hp25.1 _ (by omega))
        have hogl := og_lt hn16 hX.1.2.2.2 jx hljx
        refine lv_aload_n hx hy dX6_line_60 rfl (lv_at hl 1 rfl) ?_
        refine lv_iload_n hx hy dX6_line_61 rfl (lv_at hl 2 rfl) ?_
        refine lv_iload_n hx hy dX6_line_62 rfl (lv_at hl 0 rfl) ?_
        refine zI hI (xV F hI hl (kX6_countOf l E ((v33, u.2)) (f := X.1.2.2) jx (X.1.2.1) (by omega) (by omega) (hbt36 jx (by omega))) M_X6_133 (rX6 F hI) rfl ⟨Nat.le_of_ble_eq_true rfl, Nat.le_of_ble_eq_true rfl⟩ ⟨Nat.zero_le _, Nat.zero_le _⟩ rfl (Nat.le_of_ble_eq_true rfl) dX6_line_63) (fun r39 v40 H locs hI hp38 => ?_)
        subst hp38
        have hcl41 := cnt_le X.1.2.2 jx (X.1.2.1)
        refine lv_istore (lv' := [(4, .int (nI (cnt X.1.2.2 jx (X.1.2.1)))), (3, .int (nI (X.1.2.1))), (0, .ref (eA E 48)), (1, .int (nI jx)), (2, .int (nI 4))]) hx hy dX6_line_66 hl (by decide) rfl (fun ls hl => ?_)
        refine lv_iload_n hx hy dX6_line_68 rfl (lv_at hl 4 rfl) ?_
        refine lv_tableIn (tgt := 104) hx hy dX6_line_69 (by decide) (by decide) (by rfl) (by decide) ?_
        refine lv_iload hx hy dX6_line_104 (lv_at hl 0 rfl) ?_
        exact rI hQ F (v := (v33, u.2)) hI dX6_line_106 (by rw [a_line, withL_s hxx, withR_s hxy]; exact ⟨rfl, ScrM.rep hC hX hsc34, hsc34.c⟩)
      · refine lv_iload_n hx hy dX6_line_26 rfl (lv_at hl 2 rfl) ?_
        refine lv_iconst (v := nI 4) hx hy dX6_line_27 (by decide) ?_
        refine lv_icmp_ge (tgt := 38) hx hy dX6_line_28 (by decide) (fun _ => ?_) (fun q => absurd q (by decide))
        refine lv_aload_n hx hy dX6_line_38 rfl (lv_at hl 0 rfl) ?_
        refine gX6_all F hI L_X6_7 dX6_line_39 ?_
        refine lv_iconst (v := nI 1) hx hy dX6_line_42 (by decide) ?_
        refine aIlN F hI iX6_all (i := 1) (by omega) (by decide) dX6_line_43 ?_
        refine tI hA.2.1 ?_
        refine lv_istore_n (lv' := [(3, .int (nI (X.1.2.1))), (0, .ref (eA E 48)), (1, .int (nI jx)), (2, .int (nI 5))]) hx hy dX6_line_44 rfl hl (by decide) rfl (fun ls hl => ?_)
        refine lv_aload_n hx hy dX6_line_45 rfl (lv_at hl 1 rfl) ?_
        refine lv_iload_n hx hy dX6_line_46 rfl (lv_at hl 2 rfl) ?_
        refine lv_iload_n hx hy dX6_line_47 rfl (lv_at hl 0 rfl) ?_
        refine zV hI (xV F hI hl (kX6_lays l E (u) (z := X.1) hA hX.1 jx (X.1.2.1) (by omega) (by omega)) M_X6_125 (rX6 F hI) rfl ⟨Nat.le_of_ble_eq_true rfl, Nat.le_of_ble_eq_true rfl⟩ ⟨Nat.zero_le _, Nat.zero_le _⟩ rfl (Nat.le_of_ble_eq_true rfl) dX6_line_48) (fun v44 H locs hI hp42 => ?_)
        have hsc45 : ScrM u.1 v44 := (ScrM.rf _).tr hp42.2.qo.scr
        have hCs46 := ScrM.rep hC hX hsc45
        have hAhCs46 : RowM v44 41 0 X.1 := hCs46.1
        have hbt47 : ∀ a, a < jx + 1 → BitM X.1.2.2 a (X.1.2.1) v44 := hp42.1
        refine lv_aload_n hx hy dX6_line_51 rfl (lv_at hl 1 rfl) ?_
        refine lv_iload_n hx hy dX6_line_52 rfl (lv_at hl 2 rfl) ?_
        refine zV hI (xV F hI hl (kX6_findsExact l E ((v44, u.2)) (z := X.1) hAhCs46 hX.1 jx (by omega)) M_X6_129 (rX6 F hI) rfl ⟨Nat.le_of_ble_eq_true rfl, Nat.le_of_ble_eq_true rfl⟩ ⟨Nat.zero_le _, Nat.zero_le _⟩ rfl (Nat.le_of_ble_eq_true rfl) dX6_line_53) (fun v50 H locs hI hp48 => ?_)
        have hsc51 : ScrM u.1 v50 := hsc45.tr (QO.scr (fun q i _ _ h => hp48.2 q i h))
        have hCs52 := ScrM.rep hC hX hsc51
        have hAhCs52 : RowM v50 41 0 X.1 := hCs52.1
        have hbt53 : ∀ a, a < jx + 1 → BitM X.1.2.2 a (X.1.2.1) v50 := fun a ha => (hbt47 a ha).keep (fun i => hp48.2 45 i (by decide))
        refine lv_aload_n hx hy dX6_line_56 rfl (lv_at hl 1 rfl) ?_
        refine zV hI (xV F hI hl (kX6_findsDepths l E ((v50, u.2)) (z := X.1) hAhCs52 hX.1) M_X6_195 (rX6 F hI) rfl ⟨Nat.le_of_ble_eq_true rfl, Nat.le_of_ble_eq_true rfl⟩ ⟨Nat.zero_le _, Nat.zero_le _⟩ rfl (Nat.le_of_ble_eq_true rfl) dX6_line_57) (fun v56 H locs hI hp54 => ?_)
        have hsc57 : ScrM u.1 v56 := hsc51.tr (hp54).scr
        have hCs58 := ScrM.rep hC hX hsc57
        have hAhCs58 : RowM v56 41 0 X.1 := hCs58.1
        have hbt59 : ∀ a, a < jx + 1 → BitM X.1.2.2 a (X.1.2.1) v56 := fun a ha => (hbt53 a ha).keep (fun i => hp54.2 45 i (by decide) (by decide))
        have hex60 : v56 47 jx = nI (ex X.1.2.2 jx) := (hp54.2 _ _ (by decide) (by decide)).trans (hp48.1 _ (by omega))
        have hogl := og_lt hn16 hX.1.2.2.2 jx hljx
        refine lv_aload_n hx hy dX6_line_60 rfl (lv_at hl 1 rfl) ?_
        refine lv_iload_n hx hy dX6_line_61 rfl (lv_at hl 2 rfl) ?_
        refine lv_iload_n hx hy dX6_line_62 rfl (lv_at hl 0 rfl) ?_
        refine zI hI (xV F hI hl (kX6_countOf l E ((v56, u.2)) (f := X.1.2.2) jx (X.1.2.1) (by omega) (by omega) (hbt59 jx (by omega))) M_X6_133 (rX6 F hI) rfl ⟨Nat.le_of_ble_eq_true rfl, Nat.le_of_ble_eq_true rfl⟩ ⟨Nat.zero_le _, Nat.zero_le _⟩ rfl (Nat.le_of_ble_eq_true rfl) dX6_line_63) (fun r62 v63 H locs hI hp61 => ?_)
        subst hp61
        have hcl64 := cnt_le X.1.2.2 jx (X.1.2.1)
        refine lv_istore (lv' := [(4, .int (nI (cnt X.1.2.2 jx (X.1.2.1)))), (3, .int (nI (X.1.2.1))), (0, .ref (eA E 48)), (1, .int (nI jx)), (2, .int (nI 5))]) hx hy dX6_line_66 hl (by decide) rfl (fun ls hl => ?_)
        refine lv_iload_n hx hy dX6_line_68 rfl (lv_at hl 4 rfl) ?_
        refine lv_tableIn (tgt := 107) hx hy dX6_line_69 (by decide) (by decide) (by rfl) (by decide) ?_
        refine lv_iload hx hy dX6_line_107 (lv_at hl 0 rfl) ?_
        refine lv_i2l (v := lN (cnt X.1.2.2 jx (X.1.2.1))) hx hy dX6_line_109 (nI_l (by omega)) ?_
        refine zcl F K_X6_118 dX6_line_110 ?_
        refine tL (show _ = lN 65536 from rfl) ?_
        refine lv_lmul hx hy dX6_line_113 ?_
        refine tL (lN_mul (cnt X.1.2.2 jx (X.1.2.1)) (65536)) ?_
        refine lv_iload_n hx hy dX6_line_114 rfl (lv_at hl 1 rfl) ?_
        refine lv_i2l (v := lN (X.1.2.1)) hx hy dX6_line_115 (nI_l (by omega)) ?_
        refine lv_ldiv hx hy dX6_line_116 (lN_ne hl1 hl2) ?_
        refine tL (pk_lDiv (a := (cnt X.1.2.2 jx (X.1.2.1)) * 65536) (b := X.1.2.1) (by omega) (by omega) (by omega)) ?_
        refine lv_l2i (v := nI (((cnt X.1.2.2 jx (X.1.2.1)) * 65536) / (X.1.2.1))) hx hy dX6_line_117 (lN_i (((cnt X.1.2.2 jx (X.1.2.1)) * 65536) / (X.1.2.1))) ?_
        exact rI hQ F (v := (v56, u.2)) hI dX6_line_118 (by rw [a_line, withL_s hxx, withR_s hxy]; exact ⟨rfl, ScrM.rep hC hX hsc57, hsc57.c⟩)
      · refine lv_iload_n hx hy dX6_line_26 rfl (lv_at hl 2 rfl) ?_
        refine lv_iconst (v := nI 4) hx hy dX6_line_27 (by decide) ?_
        refine lv_icmp_ge (tgt := 38) hx hy dX6_line_28 (by decide) (fun _ => ?_) (fun q => absurd q (by decide))
        refine lv_aload_n hx hy dX6_line_38 rfl (lv_at hl 0 rfl) ?_
        refine gX6_all F hI L_X6_7 dX6_line_39 ?_
        refine lv_iconst (v := nI 1) hx hy dX6_line_42 (by decide) ?_
        refine aIlN F hI iX6_all (i := 1) (by omega) (by decide) dX6_line_43 ?_
        refine tI hA.2.1 ?_
        refine lv_istore_n (lv' := [(3, .int (nI (X.1.2.1))), (0, .ref (eA E 48)), (1, .int (nI jx)), (2, .int (nI 6))]) hx hy dX6_line_44 rfl hl (by decide) rfl (fun ls hl => ?_)
        refine lv_aload_n hx hy dX6_line_45 rfl (lv_at hl 1 rfl) ?_
        refine lv_iload_n hx hy dX6_line_46 rfl (lv_at hl 2 rfl) ?_
        refine lv_iload_n hx hy dX6_line_47 rfl (lv_at hl 0 rfl) ?_
        refine zV hI (xV F hI hl (kX6_lays l E (u) (z := X.1) hA hX.1 jx (X.1.2.1) (by omega) (by omega)) M_X6_125 (rX6 F hI) rfl ⟨Nat.le_of_ble_eq_true rfl, Nat.le_of_ble_eq_true rfl⟩ ⟨Nat.zero_le _, Nat.zero_le _⟩ rfl (Nat.le_of_ble_eq_true rfl) dX6_line_48) (fun v67 H locs hI hp65 => ?_)
        have hsc68 : ScrM u.1 v67 := (ScrM.rf _).tr hp65.2.qo.scr
        have hCs69 := ScrM.rep hC hX hsc68
        have hAhCs69 : RowM v67 41 0 X.1 := hCs69.1
        have hbt70 : ∀ a, a < jx + 1 → BitM X.1.2.2 a (X.1.2.1) v67 := hp65.1
        refine lv_aload_n hx hy dX6_line_51 rfl (lv_at hl 1 rfl) ?_
        refine lv_iload_n hx hy dX6_line_52 rfl (lv_at hl 2 rfl) ?_
        refine zV hI (xV F hI hl (kX6_findsExact l E ((v67, u.2)) (z := X.1) hAhCs69 hX.1 jx (by omega)) M_X6_129 (rX6 F hI) rfl ⟨Nat.le_of_ble_eq_true rfl, Nat.le_of_ble_eq_true rfl⟩ ⟨Nat.zero_le _, Nat.zero_le _⟩ rfl (Nat.le_of_ble_eq_true rfl) dX6_line_53) (fun v73 H locs hI hp71 => ?_)
        have hsc74 : ScrM u.1 v73 := hsc68.tr (QO.scr (fun q i _ _ h => hp71.2 q i h))
        have hCs75 := ScrM.rep hC hX hsc74
        have hAhCs75 : RowM v73 41 0 X.1 := hCs75.1
        have hbt76 : ∀ a, a < jx + 1 → BitM X.1.2.2 a (X.1.2.1) v73 := fun a ha => (hbt70 a ha).keep (fun i => hp71.2 45 i (by decide))
        refine lv_aload_n hx hy dX6_line_56 rfl (lv_at hl 1 rfl) ?_
        refine zV hI (xV F hI hl (kX6_findsDepths l E ((v73, u.2)) (z := X.1) hAhCs75 hX.1) M_X6_195 (rX6 F hI) rfl ⟨Nat.le_of_ble_eq_true rfl, Nat.le_of_ble_eq_true rfl⟩ ⟨Nat.zero_le _, Nat.zero_le _⟩ rfl (Nat.le_of_ble_eq_true rfl) dX6_line_57) (fun v79 H locs hI hp77 => ?_)
        have hsc80 : ScrM u.1 v79 := hsc74.tr (hp77).scr
        have hCs81 := ScrM.rep hC hX hsc80
        have hAhCs81 : RowM v79 41 0 X.1 := hCs81.1
        have hbt82 : ∀ a, a < jx + 1 → BitM X.1.2.2 a (X.1.2.1) v79 := fun a ha => (hbt76 a ha).keep (fun i => hp77.2 45 i (by decide) (by decide))
        have hex83 : v79 47 jx = nI (ex X.1.2.2 jx) := (hp77.2 _ _ (by decide) (by decide)).trans (hp71.1 _ (by omega))
        have hogl := og_lt hn16 hX.1.2.2.2 jx hljx
        refine lv_aload_n hx hy dX6_line_60 rfl (lv_at hl 1 rfl) ?_
        refine lv_iload_n hx hy dX6_line_61 rfl (lv_at hl 2 rfl) ?_
        refine lv_iload_n hx hy dX6_line_62 rfl (lv_at hl 0 rfl) ?_
        refine zI hI (xV F hI hl (kX6_countOf l E ((v79, u.2)) (f := X.1.2.2) jx (X.1.2.1) (by omega) (by omega) (hbt82 jx (by omega))) M_X6_133 (rX6 F hI) rfl ⟨Nat.le_of_ble_eq_true rfl, Nat.le_of_ble_eq_true rfl⟩ ⟨Nat.zero_le _, Nat.zero_le _⟩ rfl (Nat.le_of_ble_eq_true rfl) dX6_line_63) (fun r85 v86 H locs hI hp84 => ?_)
        subst hp84
        have hcl87 := cnt_le X.1.2.2 jx (X.1.2.1)
        refine lv_istore (lv' := [(4, .int (nI (cnt X.1.2.2 jx (X.1.2.1)))), (3, .int (nI (X.1.2.1))), (0, .ref (eA E 48)), (1, .int (nI jx)), (2, .int (nI 6))]) hx hy dX6_line_66 hl (by decide) rfl (fun ls hl => ?_)
        refine lv_iload_n hx hy dX6_line_68 rfl (lv_at hl 4 rfl) ?_
        refine lv_tableIn (tgt := 119) hx hy dX6_line_69 (by decide) (by decide) (by rfl) (by decide) ?_
        refine lv_aload_n hx hy dX6_line_119 rfl (lv_at hl 2 rfl) ?_
        refine gX6_exact F hI L_X6_32 dX6_line_120 ?_
        refine lv_iload_n hx hy dX6_line_123 rfl (lv_at hl 3 rfl) ?_
        refine aIlN F hI iX6_exact (i := jx) (by omega) (by decide) dX6_line_124 ?_
        refine tI (show _ = v79 47 jx from rfl) ?_
        refine tI hex83 ?_
        exact rI hQ F (v := (v79, u.2)) hI dX6_line_125 (by rw [a_line, withL_s hxx, withR_s hxy]; exact ⟨rfl, ScrM.rep hC hX hsc80, hsc80.c⟩)
      · refine lv_iload_n hx hy dX6_line_26 rfl (lv_at hl 2 rfl) ?_
        refine lv_iconst (v := nI 4) hx hy dX6_line_27 (by decide) ?_
        refine lv_icmp_ge (tgt := 38) hx hy dX6_line_28 (by decide) (fun _ => ?_) (fun q => absurd q (by decide))
        refine lv_aload_n hx hy dX6_line_38 rfl (lv_at hl 0 rfl) ?_
        refine gX6_all F hI L_X6_7 dX6_line_39 ?_
        refine lv_iconst (v := nI 1) hx hy dX6_line_42 (by decide) ?_
        refine aIlN F hI iX6_all (i := 1) (by omega) (by decide) dX6_line_43 ?_
        refine tI hA.2.1 ?_
        refine lv_istore_n (lv' := [(3, .int (nI (X.1.2.1))), (0, .ref (eA E 48)), (1, .int (nI jx)), (2, .int (nI 7))]) hx hy dX6_line_44 rfl hl (by decide) rfl (fun ls hl => ?_)
        refine lv_aload_n hx hy dX6_line_45 rfl (lv_at hl 1 rfl) ?_
        refine lv_iload_n hx hy dX6_line_46 rfl (lv_at hl 2 rfl) ?_
        refine lv_iload_n hx hy dX6_line_47 rfl (lv_at hl 0 rfl) ?_
        refine zV hI (xV F hI hl (kX6_lays l E (u) (z := X.1) hA hX.1 jx (X.1.2.1) (by omega) (by omega)) M_X6_125 (rX6 F hI) rfl ⟨Nat.le_of_ble_eq_true rfl, Nat.le_of_ble_eq_true rfl⟩ ⟨Nat.zero_le _, Nat.zero_le _⟩ rfl (Nat.le_of_ble_eq_true rfl) dX6_line_48) (fun v90 H locs hI hp88 => ?_)
        have hsc91 : ScrM u.1 v90 := (ScrM.rf _).tr hp88.2.qo.scr
        have hCs92 := ScrM.rep hC hX hsc91
        have hAhCs92 : RowM v90 41 0 X.1 := hCs92.1
        have hbt93 : ∀ a, a < jx + 1 → BitM X.1.2.2 a (X.1.2.1) v90 := hp88.1
        refine lv_aload_n hx hy dX6_line_51 rfl (lv_at hl 1 rfl) ?_
        refine lv_iload_n hx hy dX6_line_52 rfl (lv_at hl 2 rfl) ?_
        refine zV hI (xV F hI hl (kX6_findsExact l E ((v90, u.2)) (z := X.1) hAhCs92 hX.1 jx (by omega)) M_X6_129 (rX6 F hI) rfl ⟨Nat.le_of_ble_eq_true rfl, Nat.le_of_ble_eq_true rfl⟩ ⟨Nat.zero_le _, Nat.zero_le _⟩ rfl (Nat.le_of_ble_eq_true rfl) dX6_line_53) (fun v96 H locs hI hp94 => ?_)
        have hsc97 : ScrM u.1 v96 := hsc91.tr (QO.scr (fun q i _ _ h => hp94.2 q i h))
        have hCs98 := ScrM.rep hC hX hsc97
        have hAhCs98 : RowM v96 41 0 X.1 := hCs98.1
        have hbt99 : ∀ a, a < jx + 1 → BitM X.1.2.2 a (X.1.2.1) v96 := fun a ha => (hbt93 a ha).keep (fun i => hp94.2 45 i (by decide))
        refine lv_aload_n hx hy dX6_line_56 rfl (lv_at hl 1 rfl) ?_
        refine zV hI (xV F hI hl (kX6_findsDepths l E ((v96, u.2)) (z := X.1) hAhCs98 hX.1) M_X6_195 (rX6 F hI) rfl ⟨Nat.le_of_ble_eq_true rfl, Nat.le_of_ble_eq_true rfl⟩ ⟨Nat.zero_le _, Nat.zero_le _⟩ rfl (Nat.le_of_ble_eq_true rfl) dX6_line_57) (fun v102 H locs hI hp100 => ?_)
        have hsc103 : ScrM u.1 v102 := hsc97.tr (hp100).scr
        have hCs104 := ScrM.rep hC hX hsc103
        have hAhCs104 : RowM v102 41 0 X.1 := hCs104.1
        have hbt105 : ∀ a, a < jx + 1 → BitM X.1.2.2 a (X.1.2.1) v102 := fun a ha => (hbt99 a ha).keep (fun i => hp100.2 45 i (by decide) (by decide))
        have hex106 : v102 47 jx = nI (ex X.1.2.2 jx) := (hp100.2 _ _ (by decide) (by decide)).trans (hp94.1 _ (by omega))
        have hogl := og_lt hn16 hX.1.2.2.2 jx hljx
        refine lv_aload_n hx hy dX6_line_60 rfl (lv_at hl 1 rfl) ?_
        refine lv_iload_n hx hy dX6_line_61 rfl (lv_at hl 2 rfl) ?_
        refine lv_iload_n hx hy dX6_line_62 rfl (lv_at hl 0 rfl) ?_
        refine zI hI (xV F hI hl (kX6_countOf l E ((v102, u.2)) (f := X.1.2.2) jx (X.1.2.1) (by omega) (by omega) (hbt105 jx (by omega))) M_X6_133 (rX6 F hI) rfl ⟨Nat.le_of_ble_eq_true rfl, Nat.le_of_ble_eq_true rfl⟩ ⟨Nat.zero_le _, Nat.zero_le _⟩ rfl (Nat.le_of_ble_eq_true rfl) dX6_line_63) (fun r108 v109 H locs hI hp107 => ?_)
        subst hp107
        have hcl110 := cnt_le X.1.2.2 jx (X.1.2.1)
        refine lv_istore (lv' := [(4, .int (nI (cnt X.1.2.2 jx (X.1.2.1)))), (3, .int (nI (X.1.2.1))), (0, .ref (eA E 48)), (1, .int (nI jx)), (2, .int (nI 7))]) hx hy dX6_line_66 hl (by decide) rfl (fun ls hl => ?_)
        refine lv_iload_n hx hy dX6_line_68 rfl (lv_at hl 4 rfl) ?_
        refine lv_tableIn (tgt := 126) hx hy dX6_line_69 (by decide) (by decide) (by rfl) (by decide) ?_
        refine lv_aload_n hx hy dX6_line_126 rfl (lv_at hl 2 rfl) ?_
        refine lv_iload_n hx hy dX6_line_127 rfl (lv_at hl 3 rfl) ?_
        refine lv_iload hx hy dX6_line_128 (lv_at hl 0 rfl) ?_
        refine lv_iload_n hx hy dX6_line_130 rfl (lv_at hl 1 rfl) ?_
        have hxl110 := ex_le hX.1.2.2.2 jx (by omega)
        refine zI hI (xV F hI hl (kX6_errorBy l E ((v102, u.2)) jx (cnt X.1.2.2 jx (X.1.2.1)) (X.1.2.1) (ex X.1.2.2 jx) (by omega) hex106 (by omega) (by omega) (by omega) (by omega)) M_X6_136 (rX6 F hI) rfl ⟨Nat.le_of_ble_eq_true rfl, Nat.le_of_ble_eq_true rfl⟩ ⟨Nat.zero_le _, Nat.zero_le _⟩ rfl (Nat.le_of_ble_eq_true rfl) dX6_line_131) (fun r112 v113 H locs hI hp111 => ?_)
        subst hp111
        refine tI (show _ = nI (errN X.1.2.2 jx (X.1.2.1)) from rfl) ?_
        exact rI hQ F (v := (v102, u.2)) hI dX6_line_134 (by rw [a_line, withL_s hxx, withR_s hxy]; exact ⟨rfl, ScrM.rep hC hX hsc103, hsc103.c⟩)
      · refine lv_iload_n hx hy dX6_line_26 rfl (lv_at hl 2 rfl) ?_
        refine lv_iconst (v := nI 4) hx hy dX6_line_27 (by decide) ?_
        refine lv_icmp_ge (tgt := 38) hx hy dX6_line_28 (by decide) (fun _ => ?_) (fun q => absurd q (by decide))
        refine lv_aload_n hx hy dX6_line_38 rfl (lv_at hl 0 rfl) ?_
        refine gX6_all F hI L_X6_7 dX6_line_39 ?_
        refine lv_iconst (v := nI 1) hx hy dX6_line_42 (by decide) ?_
        refine aIlN F hI iX6_all (i := 1) (by omega) (by decide) dX6_line_43 ?_
        refine tI hA.2.1 ?_
        refine lv_istore_n (lv' := [(3, .int (nI (X.1.2.1))), (0, .ref (eA E 48)), (1, .int (nI jx)), (2, .int (nI 8))]) hx hy dX6_line_44 rfl hl (by decide) rfl (fun ls hl => ?_)
        refine lv_aload_n hx hy dX6_line_45 rfl (lv_at hl 1 rfl) ?_
        refine lv_iload_n hx hy dX6_line_46 rfl (lv_at hl 2 rfl) ?_
        refine lv_iload_n hx hy dX6_line_47 rfl (lv_at hl 0 rfl) ?_
        refine zV hI (xV F hI hl (kX6_lays l E (u) (z := X.1) hA hX.1 jx (X.1.2.1) (by omega) (by omega)) M_X6_125 (rX6 F hI) rfl ⟨Nat.le_of_ble_eq_true rfl, Nat.le_of_ble_eq_true rfl⟩ ⟨Nat.zero_le _, Nat.zero_le _⟩ rfl (Nat.le_of_ble_eq_true rfl) dX6_line_48) (fun v116 H locs hI hp114 => ?_)
        have hsc117 : ScrM u.1 v116 := (ScrM.rf _).tr hp114.2.qo.scr
        have hCs118 := ScrM.rep hC hX hsc117
        have hAhCs118 : RowM v116 41 0 X.1 := hCs118.1
        have hbt119 : ∀ a, a < jx + 1 → BitM X.1.2.2 a (X.1.2.1) v116 := hp114.1
        refine lv_aload_n hx hy dX6_line_51 rfl (lv_at hl 1 rfl) ?_
        refine lv_iload_n hx hy dX6_line_52 rfl (lv_at hl 2 rfl) ?_
        refine zV hI (xV F hI hl (kX6_findsExact l E ((v116, u.2)) (z := X.1) hAhCs118 hX.1 jx (by omega)) M_X6_129 (rX6 F hI) rfl ⟨Nat.le_of_ble_eq_true rfl, Nat.le_of_ble_eq_true rfl⟩ ⟨Nat.zero_le _, Nat.zero_le _⟩ rfl (Nat.le_of_ble_eq_true rfl) dX6_line_53) (fun v122 H locs hI hp120 => ?_)
        have hsc123 : ScrM u.1 v122 := hsc117.tr (QO.scr (fun q i _ _ h => hp120.2 q i h))
        have hCs124 := ScrM.rep hC hX hsc123
        have hAhCs124 : RowM v122 41 0 X.1 := hCs124.1
        have hbt125 : ∀ a, a < jx + 1 → BitM X.1.2.2 a (X.1.2.1) v122 := fun a ha => (hbt119 a ha).keep (fun i => hp120.2 45 i (by decide))
        refine lv_aload_n hx hy dX6_line_56 rfl (lv_at hl 1 rfl) ?_
        refine zV hI (xV F hI hl (kX6_findsDepths l E ((v122, u.2)) (z := X.1) hAhCs124 hX.1) M_X6_195 (rX6 F hI) rfl ⟨Nat.le_of_ble_eq_true rfl, Nat.le_of_ble_eq_true rfl⟩ ⟨Nat.zero_le _, Nat.zero_le _⟩ rfl (Nat.le_of_ble_eq_true rfl) dX6_line_57) (fun v128 H locs hI hp126 => ?_)
        have hsc129 : ScrM u.1 v128 := hsc123.tr (hp126).scr
        have hCs130 := ScrM.rep hC hX hsc129
        have hAhCs130 : RowM v128 41 0 X.1 := hCs130.1
        have hbt131 : ∀ a, a < jx + 1 → BitM X.1.2.2 a (X.1.2.1) v128 := fun a ha => (hbt125 a ha).keep (fun i => hp126.2 45 i (by decide) (by decide))
        have hex132 : v128 47 jx = nI (ex X.1.2.2 jx) := (hp126.2 _ _ (by decide) (by decide)).trans (hp120.1 _ (by omega))
        have hogl := og_lt hn16 hX.1.2.2.2 jx hljx
        refine lv_aload_n hx hy dX6_line_60 rfl (lv_at hl 1 rfl) ?_
        refine lv_iload_n hx hy dX6_line_61 rfl (lv_at hl 2 rfl) ?_
        refine lv_iload_n hx hy dX6_line_62 rfl (lv_at hl 0 rfl) ?_
        refine zI hI (xV F hI hl (kX6_countOf l E ((v128, u.2)) (f := X.1.2.2) jx (X.1.2.1) (by omega) (by omega) (hbt131 jx (by omega))) M_X6_133 (rX6 F hI) rfl ⟨Nat.le_of_ble_eq_true rfl, Nat.le_of_ble_eq_true rfl⟩ ⟨Nat.zero_le _, Nat.zero_le _⟩ rfl (Nat.le_of_ble_eq_true rfl) dX6_line_63) (fun r134 v135 H locs hI hp133 => ?_)
        subst hp133
        have hcl136 := cnt_le X.1.2.2 jx (X.1.2.1)
        refine lv_istore (lv' := [(4, .int (nI (cnt X.1.2.2 jx (X.1.2.1)))), (3, .int (nI (X.1.2.1))), (0, .ref (eA E 48)), (1, .int (nI jx)), (2, .int (nI 8))]) hx hy dX6_line_66 hl (by decide) rfl (fun ls hl => ?_)
        refine lv_iload_n hx hy dX6_line_68 rfl (lv_at hl 4 rfl) ?_
        refine lv_tableIn (tgt := 135) hx hy dX6_line_69 (by decide) (by decide) (by rfl) (by decide) ?_
        refine lv_aload_n hx hy dX6_line_135 rfl (lv_at hl 2 rfl) ?_
        refine gX6_deep F hI L_X6_41 dX6_line_136 ?_
        refine lv_iload_n hx hy dX6_line_139 rfl (lv_at hl 3 rfl) ?_
        refine aIlN F hI iX6_deep (i := jx) (by omega) (by decide) dX6_line_140 ?_
        refine tI (show _ = v128 50 jx from rfl) ?_
        refine tI (hp126.1 jx hljx).1 ?_
        exact rI hQ F (v := (v128, u.2)) hI dX6_line_141 (by rw [a_line, withL_s hxx, withR_s hxy]; exact ⟨rfl, ScrM.rep hC hX hsc129, hsc129.c⟩)
      · refine lv_iload_n hx hy dX6_line_26 rfl (lv_at hl 2 rfl) ?_
        refine lv_iconst (v := nI 4) hx hy dX6_line_27 (by decide) ?_
        refine lv_icmp_ge (tgt := 38) hx hy dX6_line_28 (by decide) (fun _ => ?_) (fun q => absurd q (by decide))
        refine lv_aload_n hx hy dX6_line_38 rfl (lv_at hl 0 rfl) ?_
        refine gX6_all F hI L_X6_7 dX6_line_39 ?_
        refine lv_iconst (v := nI 1) hx hy dX6_line_42 (by decide) ?_
        refine aIlN F hI iX6_all (i := 1) (by omega) (by decide) dX6_line_43 ?_
        refine tI hA.2.1 ?_
        refine lv_istore_n (lv' := [(3, .int (nI (X.1.2.1))), (0, .ref (eA E 48)), (1, .int (nI jx)), (2, .int (nI 9))]) hx hy dX6_line_44 rfl hl (by decide) rfl (fun ls hl => ?_)
        refine lv_aload_n hx hy dX6_line_45 rfl (lv_at hl 1 rfl) ?_
        refine lv_iload_n hx hy dX6_line_46 rfl (lv_at hl 2 rfl) ?_
        refine lv_iload_n hx hy dX6_line_47 rfl (lv_at hl 0 rfl) ?_
        refine zV hI (xV F hI hl (kX6_lays l E (u) (z := X.1) hA hX.1 jx (X.1.2.1) (by omega) (by omega)) M_X6_125 (rX6 F hI) rfl ⟨Nat.le_of_ble_eq_true rfl, Nat.le_of_ble_eq_true rfl⟩ ⟨Nat.zero_le _, Nat.zero_le _⟩ rfl (Nat.le_of_ble_eq_true rfl) dX6_line_48) (fun v139 H locs hI hp137 => ?_)
        have hsc140 : ScrM u.1 v139 := (ScrM.rf _).tr hp137.2.qo.scr
        have hCs141 := ScrM.rep hC hX hsc140
        have hAhCs141 : RowM v139 41 0 X.1 := hCs141.1
        have hbt142 : ∀ a, a < jx + 1 → BitM X.1.2.2 a (X.1.2.1) v139 := hp137.1
        refine lv_aload_n hx hy dX6_line_51 rfl (lv_at hl 1 rfl) ?_
        refine lv_iload_n hx hy dX6_line_52 rfl (lv_at hl 2 rfl) ?_
        refine zV hI (xV F hI hl (kX6_findsExact l E ((v139, u.2)) (z := X.1) hAhCs141 hX.1 jx (by omega)) M_X6_129 (rX6 F hI) rfl ⟨Nat.le_of_ble_eq_true rfl, Nat.le_of_ble_eq_true rfl⟩ ⟨Nat.zero_le _, Nat.zero_le _⟩ rfl (Nat.le_of_ble_eq_true rfl) dX6_line_53) (fun v145 H locs hI hp143 => ?_)
        have hsc146 : ScrM u.1 v145 := hsc140.tr (QO.scr (fun q i _ _ h => hp143.2 q i h))
        have hCs147 := ScrM.rep hC hX hsc146
        have hAhCs147 : RowM v145 41 0 X.1 := hCs147.1
        have hbt148 : ∀ a, a < jx + 1 → BitM X.1.2.2 a (X.1.2.1) v145 := fun a ha => (hbt142 a ha).keep (fun i => hp143.2 45 i (by decide))
        refine lv_aload_n hx hy dX6_line_56 rfl (lv_at hl 1 rfl) ?_
        refine zV hI (xV F hI hl (kX6_findsDepths l E ((v145, u.2)) (z := X.1) hAhCs147 hX.1) M_X6_195 (rX6 F hI) rfl ⟨Nat.le_of_ble_eq_true rfl, Nat.le_of_ble_eq_true rfl⟩ ⟨Nat.zero_le _, Nat.zero_le _⟩ rfl (Nat.le_of_ble_eq_true rfl) dX6_line_57) (fun v151 H locs hI hp149 => ?_)
        have hsc152 : ScrM u.1 v151 := hsc146.tr (hp149).scr
        have hCs153 := ScrM.rep hC hX hsc152
        have hAhCs153 : RowM v151 41 0 X.1 := hCs153.1
        have hbt154 : ∀ a, a < jx + 1 → BitM X.1.2.2 a (X.1.2.1) v151 := fun a ha => (hbt148 a ha).keep (fun i => hp149.2 45 i (by decide) (by decide))
        have hex155 : v151 47 jx = nI (ex X.1.2.2 jx) := (hp149.2 _ _ (by decide) (by decide)).trans (hp143.1 _ (by omega))
        have hogl := og_lt hn16 hX.1.2.2.2 jx hljx
        refine lv_aload_n hx hy dX6_line_60 rfl (lv_at hl 1 rfl) ?_
        refine lv_iload_n hx hy dX6_line_61 rfl (lv_at hl 2 rfl) ?_
        refine lv_iload_n hx hy dX6_line_62 rfl (lv_at hl 0 rfl) ?_
        refine zI hI (xV F hI hl (kX6_countOf l E ((v151, u.2)) (f := X.1.2.2) jx (X.1.2.1) (by omega) (by omega) (hbt154 jx (by omega))) M_X6_133 (rX6 F hI) rfl ⟨Nat.le_of_ble_eq_true rfl, Nat.le_of_ble_eq_true rfl⟩ ⟨Nat.zero_le _, Nat.zero_le _⟩ rfl (Nat.le_of_ble_eq_true rfl) dX6_line_63) (fun r157 v158 H locs hI hp156 => ?_)
        subst hp156
        have hcl159 := cnt_le X.1.2.2 jx (X.1.2.1)
        refine lv_istore (lv' := [(4, .int (nI (cnt X.1.2.2 jx (X.1.2.1)))), (3, .int (nI (X.1.2.1))), (0, .ref (eA E 48)), (1, .int (nI jx)), (2, .int (nI 9))]) hx hy dX6_line_66 hl (by decide) rfl (fun ls hl => ?_)
        refine lv_iload_n hx hy dX6_line_68 rfl (lv_at hl 4 rfl) ?_
        refine lv_tableOut (tgt := 142) hx hy dX6_line_69 (by decide) (by decide) ?_
        refine lv_aload_n hx hy dX6_line_142 rfl (lv_at hl 2 rfl) ?_
        refine gX6_sources F hI L_X6_44 dX6_line_143 ?_
        refine lv_iload_n hx hy dX6_line_146 rfl (lv_at hl 3 rfl) ?_
        refine aIlN F hI iX6_sources (i := jx) (by omega) (by decide) dX6_line_147 ?_
        refine tI (show _ = v151 51 jx from rfl) ?_
        refine tI (hp149.1 jx hljx).2 ?_
        refine zI hI (xS F hI hl (kX6_bitsOf l E ((v151, u.2)) (og X.1.2.2 jx) (by omega)) M_X6_198 rfl ⟨Nat.le_of_ble_eq_true rfl, Nat.le_of_ble_eq_true rfl⟩ ⟨Nat.zero_le _, Nat.zero_le _⟩ rfl (Nat.le_of_ble_eq_true rfl) dX6_line_148) (fun r161 v162 H locs hI hp160 => ?_)
        subst hp160
        exact rI hQ F (v := (v151, u.2)) hI dX6_line_151 (by rw [a_line, withL_s hxx, withR_s hxy]; exact ⟨rfl, ScrM.rep hC hX hsc152, hsc152.c⟩)
set_option maxHeartbeats 400000 in
set_option maxRecDepth 100000 in
theorem kX6_overlap (l : Launch) (E : EV) (u : SS) {X : XS} (hC : RepM u.1 X) (hX : XOk X) (x y : Int32) : CT l yX6_overlap cX6_overlap 8 (some .int) (Rm 3 70) [.ref (eA E 48), .int (x), .int (y)] E u (Q_i E (fun r v => r = (a_overlap X x y).1 ∧ RepM v.1 (a_overlap X x y).2 ∧ SameC u.1 v.1) (fun (v : SS) => v)) := by
  refine mstart RX6 (by decide +kernel) rfl (Nat.le_of_ble_eq_true rfl) ?_
  intro p e s m args below meth co ls Q hQ F hI hl
  have hx := F.1
  have hy := F.2.1
  have hl : lv_has ls 8 [(0, .ref (eA E 48)), (1, .int (x)), (2, .int (y))] := hl
  have hC2 := hC
  obtain ⟨hA, hH, hS, hT⟩ := hC2
  have hn16 := hX.1.1
  have hl1 := hX.1.2.1
  have hl2 := hX.1.2.2.1
  have hh4 := hX.2.1.1
  have hs1 := hX.2.2.1.1
  have ht80 := hX.2.2.2.1
  refine lv_aload_n hx hy dX6_overlap_0 rfl (lv_at hl 0 rfl) ?_
  refine lv_iload_n hx hy dX6_overlap_1 rfl (lv_at hl 1 rfl) ?_
  refine zI hI (xV F hI hl (kX6_isLine l E (u) (n := X.1.1) hA.1 (by omega) x) M_X6_91 (rX6 F hI) rfl ⟨Nat.le_of_ble_eq_true rfl, Nat.le_of_ble_eq_true rfl⟩ ⟨Nat.zero_le _, Nat.zero_le _⟩ rfl (Nat.le_of_ble_eq_true rfl) dX6_overlap_2) (fun r2 v3 H locs hI hp1 => ?_)
  rcases ixO_cases X.1.1 x (by omega) with hxx | ⟨jx, hljx, rfl, hxx⟩
  · have hp1 : r2 = 0 := hp1.trans (by rw [hxx]; rfl)
    subst hp1
    refine lv_if_eq (tgt := 16) hx hy dX6_overlap_5 (by decide) (fun _ => ?_) (fun q => absurd q (by decide))
    refine zc F K_X6_95 dX6_overlap_16 ?_
    exact rI hQ F (v := (u.1, u.2)) hI dX6_overlap_18 (by rw [a_overlap, withL_n hxx]; exact ⟨rfl, hC, SameC.rf _⟩)
  · have hp1 : r2 = 1 := hp1.trans (by rw [hxx]; rfl)
    subst hp1
    have hokjx := hX.1.2.2.2 jx hljx
    have hk6jx := hokjx.1
    have hB9jx := hokjx.2.2.2.2.2.2.1
    have hC9jx := hokjx.2.2.2.2.2.2.2
    refine lv_if_eq (tgt := 16) hx hy dX6_overlap_5 (by decide) (fun q => absurd q (by decide)) (fun _ => ?_)
    refine lv_aload_n hx hy dX6_overlap_8 rfl (lv_at hl 0 rfl) ?_
    refine lv_iload_n hx hy dX6_overlap_9 rfl (lv_at hl 2 rfl) ?_
    refine zI hI (xV F hI hl (kX6_isLine l E (u) (n := X.1.1) hA.1 (by omega) y) M_X6_91 (rX6 F hI) rfl ⟨Nat.le_of_ble_eq_true rfl, Nat.le_of_ble_eq_true rfl⟩ ⟨Nat.zero_le _, Nat.zero_le _⟩ rfl (Nat.le_of_ble_eq_true rfl) dX6_overlap_10) (fun r5 v6 H locs hI hp4 => ?_)
    rcases ixO_cases X.1.1 y (by omega) with hxy | ⟨jy, hljy, rfl, hxy⟩
    · have hp4 : r5 = 0 := hp4.trans (by rw [hxy]; rfl)
      subst hp4
      refine lv_if_ne (tgt := 19) hx hy dX6_overlap_13 (by decide) (fun q => absurd q (by decide)) (fun _ => ?_)
      refine zc F K_X6_95 dX6_overlap_16 ?_
      exact rI hQ F (v := (u.1, u.2)) hI dX6_overlap_18 (by rw [a_overlap, withL_s hxx, withL_n hxy]; exact ⟨rfl, hC, SameC.rf _⟩)
    · have hp4 : r5 = 1 := hp4.trans (by rw [hxy]; rfl)
      subst hp4
      have hokjy := hX.1.2.2.2 jy hljy
      have hk6jy := hokjy.1
      have hB9jy := hokjy.2.2.2.2.2.2.1
      have hC9jy := hokjy.2.2.2.2.2.2.2
      refine lv_if_ne (tgt := 19) hx hy dX6_overlap_13 (by decide) (fun _ => ?_) (fun q => absurd q (by decide))
      refine lv_aload_n hx hy dX6_overlap_19 rfl (lv_at hl 0 rfl) ?_
      refine gX6_all F hI L_X6_7 dX6_overlap_20 ?_
      refine lv_iconst (v := nI 1) hx hy dX6_overlap_23 (by decide) ?_
      refine aIlN F hI iX6_all (i := 1) (by omega) (by decide) dX6_overlap_24 ?_
      refine tI hA.2.1 ?_
      refine lv_istore_n (lv' := [(3, .int (nI (X.1.2.1))), (0, .ref (eA E 48)), (1, .int (nI jx)), (2, .int (nI jy))]) hx hy dX6_overlap_25 rfl hl (by decide) rfl (fun ls hl => ?_)
      refine lv_aload_n hx hy dX6_overlap_26 rfl (lv_at hl 1 rfl) ?_
      refine lv_iload_n hx hy dX6_overlap_27 rfl (lv_at hl 2 rfl) ?_
      refine lv_iload_n hx hy dX6_overlap_28 rfl (lv_at hl 3 rfl) ?_
      refine lv_icmp_le (tgt := 36) hx hy dX6_overlap_29 (by decide) (fun h7 => ?_) (fun h7 => ?_)
      · have h7 : jx ≤ jy := (nI_leI (a := jx) (b := jy) (by omega) (by omega)).mp h7
        refine lv_iload_n hx hy dX6_overlap_36 rfl (lv_at hl 3 rfl) ?_
        refine lv_iload_n hx hy dX6_overlap_37 rfl (lv_at hl 0 rfl) ?_
        refine zV hI (xV F hI hl (kX6_lays l E (u) (z := X.1) hA hX.1 jy (X.1.2.1) (by omega) (by omega)) M_X6_125 (rX6 F hI) rfl ⟨Nat.le_of_ble_eq_true rfl, Nat.le_of_ble_eq_true rfl⟩ ⟨Nat.zero_le _, Nat.zero_le _⟩ rfl (Nat.le_of_ble_eq_true rfl) dX6_overlap_38) (fun v10 H locs hI hp8 => ?_)
        have hsc11 : ScrM u.1 v10 := (ScrM.rf _).tr hp8.2.qo.scr
        have hCs12 := ScrM.rep hC hX hsc11
        have hAhCs12 : RowM v10 41 0 X.1 := hCs12.1
        have hbt13 : ∀ a, a < jy + 1 → BitM X.1.2.2 a (X.1.2.1) v10 := hp8.1
        refine lv_lconst (v := lN 0) hx hy dX6_overlap_41 (by decide) ?_
        refine lv_lstore (lv' := [(4, .long (lN 0)), (3, .int (nI (X.1.2.1))), (0, .ref (eA E 48)), (1, .int (nI jx)), (2, .int (nI jy))]) hx hy dX6_overlap_42 hl (by decide) rfl (fun ls hl => ?_)
        refine lv_iconst (v := nI 0) hx hy dX6_overlap_44 (by decide) ?_
        refine lv_istore (lv' := [(6, .int (nI 0)), (4, .long (lN 0)), (3, .int (nI (X.1.2.1))), (0, .ref (eA E 48)), (1, .int (nI jx)), (2, .int (nI jy))]) hx hy dX6_overlap_45 hl (by decide) rfl (fun ls hl => ?_)
        have lp14 : ∀ (fu : Nat) (t : Nat), (t ≤ X.1.2.1) → (X.1.2.1 - t < fu) →  ∀ (H : Heap) (locs : List Loc) (ls : Array Slot), Iv E s H locs ((v10, u.2)) → lv_has ls 8 [(6, .int (nI t)), (4, .long (lN (both X.1.2.2 jx jy t))), (3, .int (nI (X.1.2.1))), (0, .ref (eA E 48)), (1, .int (nI jx)), (2, .int (nI jy))] → W p l e (Rm 3 70) s m args below meth co H locs 0 0 Q (F0 m 47 ls []) := by
          intro fu
          induction fu with
          | zero => intro t ht hf; exact absurd hf (Nat.not_lt_zero _)
          | succ fu ih =>
            intro t ht hf H locs ls hI hl
            have ih_47 := ih
            refine lv_iload hx hy dX6_overlap_47 (lv_at hl 0 rfl) ?_
            refine lv_iload_n hx hy dX6_overlap_49 rfl (lv_at hl 2 rfl) ?_
            refine lv_icmp_ge (tgt := 80) hx hy dX6_overlap_50 (by decide) (fun h15 => ?_) (fun h15 => ?_)
            · have h15 : X.1.2.1 ≤ t := (nI_leI (a := X.1.2.1) (b := t) (by omega) (by omega)).mp h15
              have e7 : t = X.1.2.1 := by omega
              have hl : lv_has ls 8 [(4, .long (lN (both X.1.2.2 jx jy X.1.2.1))), (3, .int (nI (X.1.2.1))), (0, .ref (eA E 48)), (1, .int (nI jx)), (2, .int (nI jy))] := by rw [e7] at hl; exact lv_sub hl [1, 2, 3, 4, 5] rfl
              refine lv_lload hx hy dX6_overlap_80 (lv_at hl 0 rfl) ?_
              refine lv_iload_n hx hy dX6_overlap_82 rfl (lv_at hl 1 rfl) ?_
              refine lv_i2l (v := lN (X.1.2.1)) hx hy dX6_overlap_83 (nI_l (by omega)) ?_
              refine lv_lmul hx hy dX6_overlap_84 ?_
              refine tL (lN_mul (both X.1.2.2 jx jy X.1.2.1) (X.1.2.1)) ?_
              refine lv_aload_n hx hy dX6_overlap_85 rfl (lv_at hl 2 rfl) ?_
              refine lv_iload_n hx hy dX6_overlap_86 rfl (lv_at hl 3 rfl) ?_
              refine lv_iload_n hx hy dX6_overlap_87 rfl (lv_at hl 1 rfl) ?_
              refine zI hI (xV F hI hl (kX6_countOf l E ((v10, u.2)) (f := X.1.2.2) jx (X.1.2.1) (by omega) (by omega) (hbt13 jx (by omega))) M_X6_133 (rX6 F hI) rfl ⟨Nat.le_of_ble_eq_true rfl, Nat.le_of_ble_eq_true rfl⟩ ⟨Nat.zero_le _, Nat.zero_le _⟩ rfl (Nat.le_of_ble_eq_true rfl) dX6_overlap_88) (fun r17 v18 H locs hI hp16 => ?_)
              subst hp16
              have hcl19 := cnt_le X.1.2.2 jx (X.1.2.1)
              refine lv_i2l (v := lN (cnt X.1.2.2 jx (X.1.2.1))) hx hy dX6_overlap_91 (nI_l (by omega)) ?_
              refine lv_aload_n hx hy dX6_overlap_92 rfl (lv_at hl 2 rfl) ?_
              refine lv_iload_n hx hy dX6_overlap_93 rfl (lv_at hl 4 rfl) ?_
              refine lv_iload_n hx hy dX6_overlap_94 rfl (lv_at hl 1 rfl) ?_
              refine zI hI (xV F hI hl (kX6_countOf l E ((v10, u.2)) (f := X.1.2.2) jy (X.1.2.1) (by omega) (by omega) (hbt13 jy (by omega))) M_X6_133 (rX6 F hI) rfl ⟨Nat.le_of_ble_eq_true rfl, Nat.le_of_ble_eq_true rfl⟩ ⟨Nat.zero_le _, Nat.zero_le _⟩ rfl (Nat.le_of_ble_eq_true rfl) dX6_overlap_95) (fun r21 v22 H locs hI hp20 => ?_)
              subst hp20
              have hcl23 := cnt_le X.1.2.2 jy (X.1.2.1)
              refine lv_i2l (v := lN (cnt X.1.2.2 jy (X.1.2.1))) hx hy dX6_overlap_98 (nI_l (by omega)) ?_
              refine lv_lmul hx hy dX6_overlap_99 ?_
              refine tL (lN_mul (cnt X.1.2.2 jx (X.1.2.1)) (cnt X.1.2.2 jy (X.1.2.1))) ?_
              refine lv_lsub hx hy dX6_overlap_100 ?_
              refine lv_lstore (lv' := [(6, .long ((lN ((both X.1.2.2 jx jy X.1.2.1) * (X.1.2.1))) - (lN ((cnt X.1.2.2 jx (X.1.2.1)) * (cnt X.1.2.2 jy (X.1.2.1)))))), (4, .long (lN (both X.1.2.2 jx jy X.1.2.1))), (3, .int (nI (X.1.2.1))), (0, .ref (eA E 48)), (1, .int (nI jx)), (2, .int (nI jy))]) hx hy dX6_overlap_101 hl (by decide) rfl (fun ls hl => ?_)
              refine lv_lload hx hy dX6_overlap_103 (lv_at hl 0 rfl) ?_
              refine zcl F K_X6_118 dX6_overlap_105 ?_
              refine tL (show _ = lN 65536 from rfl) ?_
              refine lv_lmul hx hy dX6_overlap_108 ?_
              refine lv_iload_n hx hy dX6_overlap_109 rfl (lv_at hl 2 rfl) ?_
              refine lv_i2l (v := lN (X.1.2.1)) hx hy dX6_overlap_110 (nI_l (by omega)) ?_
              refine lv_iload_n hx hy dX6_overlap_111 rfl (lv_at hl 2 rfl) ?_
              refine lv_i2l (v := lN (X.1.2.1)) hx hy dX6_overlap_112 (nI_l (by omega)) ?_
              refine lv_lmul hx hy dX6_overlap_113 ?_
              refine tL (lN_mul (X.1.2.1) (X.1.2.1)) ?_
              refine lv_ldiv hx hy dX6_overlap_114 (len_ne hl1 hl2) ?_
              refine lv_l2i (v := Int64.toInt32 ((((lN ((both X.1.2.2 jx jy X.1.2.1) * (X.1.2.1))) - (lN ((cnt X.1.2.2 jx (X.1.2.1)) * (cnt X.1.2.2 jy (X.1.2.1))))) * (lN 65536)) / (lN ((X.1.2.1) * (X.1.2.1))))) hx hy dX6_overlap_115 rfl ?_
              exact rI hQ F (v := (v10, u.2)) hI dX6_overlap_116 (by rw [a_overlap, withL_s hxx, withL_s hxy]; exact ⟨rfl, ScrM.rep hC hX hsc11, hsc11.c⟩)
            · have h15 : t < X.1.2.1 := Nat.lt_of_not_le (fun q9 => h15 ((nI_leI (a := X.1.2.1) (b := t) (by omega) (by omega)).mpr q9))
              refine lv_lload hx hy dX6_overlap_53 (lv_at hl 1 rfl) ?_
              refine lv_aload_n hx hy dX6_overlap_55 rfl (lv_at hl 3 rfl) ?_
              refine lv_iload_n hx hy dX6_overlap_56 rfl (lv_at hl 4 rfl) ?_
              refine lv_iload hx hy dX6_overlap_57 (lv_at hl 0 rfl) ?_
              refine zI hI (xV F hI hl (kX6_bitAt l E ((v10, u.2)) jx t (by omega) (by omega)) M_X6_107 (rX6 F hI) rfl ⟨Nat.le_of_ble_eq_true rfl, Nat.le_of_ble_eq_true rfl⟩ ⟨Nat.zero_le _, Nat.zero_le _⟩ rfl (Nat.le_of_ble_eq_true rfl) dX6_overlap_59) (fun r25 v26 H locs hI hp24 => ?_)
              subst hp24
              refine tI (show _ = v10 45 (1000 * jx + t) from rfl) ?_
              refine tI (show _ = nI (bN (bt X.1.2.2 jx t)) from (hbt13 jx (by omega) (t) (by omega))) ?_
              refine lv_aload_n hx hy dX6_overlap_62 rfl (lv_at hl 3 rfl) ?_
              refine lv_iload_n hx hy dX6_overlap_63 rfl (lv_at hl 5 rfl) ?_
              refine lv_iload hx hy dX6_overlap_64 (lv_at hl 0 rfl) ?_
              refine zI hI (xV F hI hl (kX6_bitAt l E ((v10, u.2)) jy t (by omega) (by omega)) M_X6_107 (rX6 F hI) rfl ⟨Nat.le_of_ble_eq_true rfl, Nat.le_of_ble_eq_true rfl⟩ ⟨Nat.zero_le _, Nat.zero_le _⟩ rfl (Nat.le_of_ble_eq_true rfl) dX6_overlap_66) (fun r28 v29 H locs hI hp27 => ?_)
              subst hp27
              refine tI (show _ = v10 45 (1000 * jy + t) from rfl) ?_
              refine tI (show _ = nI (bN (bt X.1.2.2 jy t)) from (hbt13 jy (by omega) (t) (by omega))) ?_
              refine lv_iand hx hy dX6_overlap_69 ?_
              refine tI (nI_and (bN (bt X.1.2.2 jx t)) (bN (bt X.1.2.2 jy t))) ?_
              refine tI (congrArg nI (bN_and (bt X.1.2.2 jx t) (bt X.1.2.2 jy t))) ?_
              have hbl := bN_le (bt X.1.2.2 jx t && bt X.1.2.2 jy t)
              refine lv_i2l (v := lN (bN (bt X.1.2.2 jx t && bt X.1.2.2 jy t))) hx hy dX6_overlap_70 (nI_l (by omega)) ?_
              refine lv_ladd hx hy dX6_overlap_71 ?_
              refine tL (lN_add (both X.1.2.2 jx jy t) (bN (bt X.1.2.2 jx t && bt X.1.2.2 jy t))) ?_
              refine tL (congrArg lN (both_suc X.1.2.2 jx jy t)) ?_
              refine lv_lstore (lv' := [(4, .long (lN (both X.1.2.2 jx jy (t + 1)))), (6, .int (nI t)), (3, .int (nI (X.1.2.1))), (0, .ref (eA E 48)), (1, .int (nI jx)), (2, .int (nI jy))]) hx hy dX6_overlap_72 hl (by decide) rfl (fun ls hl => ?_)
              refine lv_iinc (v := nI (t + 1)) (lv' := [(6, .int (nI (t + 1))), (4, .long (lN (both X.1.2.2 jx jy (t + 1)))), (3, .int (nI (X.1.2.1))), (0, .ref (eA E 48)), (1, .int (nI jx)), (2, .int (nI jy))]) hx hy dX6_overlap_74 hl (k := 1) rfl (nI_add (t) 1) (by decide) rfl (fun ls hl => ?_)
              refine lv_goto (tgt := 47) hx hy dX6_overlap_77 (by decide) ?_
              exact ih_47 (t + 1) (by omega) (by omega) _ _ _ hI (lv_sub hl [0, 1, 2, 3, 4, 5] rfl)
        exact lp14 (X.1.2.1 + 1) 0 (by omega) (by omega) _ _ _ hI (lv_sub hl [0, 1, 2, 3, 4, 5] rfl)
      · have h7 : jy < jx := Nat.lt_of_not_le (fun q9 => h7 ((nI_leI (a := jx) (b := jy) (by omega) (by omega)).mpr q9))
        refine lv_iload_n hx hy dX6_overlap_32 rfl (lv_at hl 2 rfl) ?_
        refine lv_goto (tgt := 37) hx hy dX6_overlap_33 (by decide) ?_
        refine lv_iload_n hx hy dX6_overlap_37 rfl (lv_at hl 0 rfl) ?_
        refine zV hI (xV F hI hl (kX6_lays l E (u) (z := X.1) hA hX.1 jx (X.1.2.1) (by omega) (by omega)) M_X6_125 (rX6 F hI) rfl ⟨Nat.le_of_ble_eq_true rfl, Nat.le_of_ble_eq_true rfl⟩ ⟨Nat.zero_le _, Nat.zero_le _⟩ rfl (Nat.le_of_ble_eq_true rfl) dX6_overlap_38) (fun v32 H locs hI hp30 => ?_)
        have hsc33 : ScrM u.1 v32 := (ScrM.rf _).tr hp30.2.qo.scr
        have hCs34 := ScrM.rep hC hX hsc33
        have hAhCs34 : RowM v32 41 0 X.1 := hCs34.1
        have hbt35 : ∀ a, a < jx + 1 → BitM X.1.2.2 a (X.1.2.1) v32 := hp30.1
        refine lv_lconst (v := lN 0) hx hy dX6_overlap_41 (by decide) ?_
        refine lv_lstore (lv' := [(4, .long (lN 0)), (3, .int (nI (X.1.2.1))), (0, .ref (eA E 48)), (1, .int (nI jx)), (2, .int (nI jy))]) hx hy dX6_overlap_42 hl (by decide) rfl (fun ls hl => ?_)
        refine lv_iconst (v := nI 0) hx hy dX6_overlap_44 (by decide) ?_
        refine lv_istore (lv' := [(6, .int (nI 0)), (4, .long (lN 0)), (3, .int (nI (X.1.2.1))), (0, .ref (eA E 48)), (1, .int (nI jx)), (2, .int (nI jy))]) hx hy dX6_overlap_45 hl (by decide) rfl (fun ls hl => ?_)
        have lp36 : ∀ (fu : Nat) (t : Nat), (t ≤ X.1.2.1) → (X.1.2.1 - t < fu) →  ∀ (H : Heap) (locs : List Loc) (ls : Array Slot), Iv E s H locs ((v32, u.2)) → lv_has ls 8 [(6, .int (nI t)), (4, .long (lN (both X.1.2.2 jx jy t))), (3, .int (nI (X.1.2.1))), (0, .ref (eA E 48)), (1, .int (nI jx)), (2, .int (nI jy))] → W p l e (Rm 3 70) s m args below meth co H locs 0 0 Q (F0 m 47 ls []) := by
          intro fu
          induction fu with
          | zero => intro t ht hf; exact absurd hf (Nat.not_lt_zero _)
          | succ fu ih =>
            intro t ht hf H locs ls hI hl
            have ih_47 := ih
            refine lv_iload hx hy dX6_overlap_47 (lv_at hl 0 rfl) ?_
            refine lv_iload_n hx hy dX6_overlap_49 rfl (lv_at hl 2 rfl) ?_
            refine lv_icmp_ge (tgt := 80) hx hy dX6_overlap_50 (by decide) (fun h37 => ?_) (fun h37 => ?_)
            · have h37 : X.1.2.1 ≤ t := (nI_leI (a := X.1.2.1) (b := t) (by omega) (by omega)).mp h37
              have e7 : t = X.1.2.1 := by omega
              have hl : lv_has ls 8 [(4, .long (lN (both X.1.2.2 jx jy X.1.2.1))), (3, .int (nI (X.1.2.1))), (0, .ref (eA E 48)), (1, .int (nI jx)), (2, .int (nI jy))] := by rw [e7] at hl; exact lv_sub hl [1, 2, 3, 4, 5] rfl
              refine lv_lload hx hy dX6_overlap_80 (lv_at hl 0 rfl) ?_
              refine lv_iload_n hx hy dX6_overlap_82 rfl (lv_at hl 1 rfl) ?_
              refine lv_i2l (v := lN (X.1.2.1)) hx hy dX6_overlap_83 (nI_l (by omega)) ?_
              refine lv_lmul hx hy dX6_overlap_84 ?_
              refine tL (lN_mul (both X.1.2.2 jx jy X.1.2.1) (X.1.2.1)) ?_
              refine lv_aload_n hx hy dX6_overlap_85 rfl (lv_at hl 2 rfl) ?_
              refine lv_iload_n hx hy dX6_overlap_86 rfl (lv_at hl 3 rfl) ?_
              refine lv_iload_n hx hy dX6_overlap_87 rfl (lv_at hl 1 rfl) ?_
              refine zI hI (xV F hI hl (kX6_countOf l E ((v32, u.2)) (f := X.1.2.2) jx (X.1.2.1) (by omega) (by omega) (hbt35 jx (by omega))) M_X6_133 (rX6 F hI) rfl ⟨Nat.le_of_ble_eq_true rfl, Nat.le_of_ble_eq_true rfl⟩ ⟨Nat.zero_le _, Nat.zero_le _⟩ rfl (Nat.le_of_ble_eq_true rfl) dX6_overlap_88) (fun r39 v40 H locs hI hp38 => ?_)
              subst hp38
              have hcl41 := cnt_le X.1.2.2 jx (X.1.2.1)
              refine lv_i2l (v := lN (cnt X.1.2.2 jx (X.1.2.1))) hx hy dX6_overlap_91 (nI_l (by omega)) ?_
              refine lv_aload_n hx hy dX6_overlap_92 rfl (lv_at hl 2 rfl) ?_
              refine lv_iload_n hx hy dX6_overlap_93 rfl (lv_at hl 4 rfl) ?_
              refine lv_iload_n hx hy dX6_overlap_94 rfl (lv_at hl 1 rfl) ?_
              refine zI hI (xV F hI hl (kX6_countOf l E ((v32, u.2)) (f := X.1.2.2) jy (X.1.2.1) (by omega) (by omega) (hbt35 jy (by omega))) M_X6_133 (rX6 F hI) rfl ⟨Nat.le_of_ble_eq_true rfl, Nat.le_of_ble_eq_true rfl⟩ ⟨Nat.zero_le _, Nat.zero_le _⟩ rfl (Nat.le_of_ble_eq_true rfl) dX6_overlap_95) (fun r43 v44 H locs hI hp42 => ?_)
              subst hp42
              have hcl45 := cnt_le X.1.2.2 jy (X.1.2.1)
              refine lv_i2l (v := lN (cnt X.1.2.2 jy (X.1.2.1))) hx hy dX6_overlap_98 (nI_l (by omega)) ?_
              refine lv_lmul hx hy dX6_overlap_99 ?_
              refine tL (lN_mul (cnt X.1.2.2 jx (X.1.2.1)) (cnt X.1.2.2 jy (X.1.2.1))) ?_
              refine lv_lsub hx hy dX6_overlap_100 ?_
              refine lv_lstore (lv' := [(6, .long ((lN ((both X.1.2.2 jx jy X.1.2.1) * (X.1.2.1))) - (lN ((cnt X.1.2.2 jx (X.1.2.1)) * (cnt X.1.2.2 jy (X.1.2.1)))))), (4, .long (lN (both X.1.2.2 jx jy X.1.2.1))), (3, .int (nI (X.1.2.1))), (0, .ref (eA E 48)), (1, .int (nI jx)), (2, .int (nI jy))]) hx hy dX6_overlap_101 hl (by decide) rfl (fun ls hl => ?_)
              refine lv_lload hx hy dX6_overlap_103 (lv_at hl 0 rfl) ?_
              refine zcl F K_X6_118 dX6_overlap_105 ?_
              refine tL (show _ = lN 65536 from rfl) ?_
              refine lv_lmul hx hy dX6_overlap_108 ?_
              refine lv_iload_n hx hy dX6_overlap_109 rfl (lv_at hl 2 rfl) ?_
              refine lv_i2l (v := lN (X.1.2.1)) hx hy dX6_overlap_110 (nI_l (by omega)) ?_
              refine lv_iload_n hx hy dX6_overlap_111 rfl (lv_at hl 2 rfl) ?_
              refine lv_i2l (v := lN (X.1.2.1)) hx hy dX6_overlap_112 (nI_l (by omega)) ?_
              refine lv_lmul hx hy dX6_overlap_113 ?_
              refine tL (lN_mul (X.1.2.1) (X.1.2.1)) ?_
              refine lv_ldiv hx hy dX6_overlap_114 (len_ne hl1 hl2) ?_
              refine lv_l2i (v := Int64.toInt32 ((((lN ((both X.1.2.2 jx jy X.1.2.1) * (X.1.2.1))) - (lN ((cnt X.1.2.2 jx (X.1.2.1)) * (cnt X.1.2.2 jy (X.1.2.1))))) * (lN 65536)) / (lN ((X.1.2.1) * (X.1.2.1))))) hx hy dX6_overlap_115 rfl ?_
              exact rI hQ F (v := (v32, u.2)) hI dX6_overlap_116 (by rw [a_overlap, withL_s hxx, withL_s hxy]; exact ⟨rfl, ScrM.rep hC hX hsc33, hsc33.c⟩)
            · have h37 : t < X.1.2.1 := Nat.lt_of_not_le (fun q9 => h37 ((nI_leI (a := X.1.2.1) (b := t) (by omega) (by omega)).mpr q9))
              refine lv_lload hx hy dX6_overlap_53 (lv_at hl 1 rfl) ?_
              refine lv_aload_n hx hy dX6_overlap_55 rfl (lv_at hl 3 rfl) ?_
              refine lv_iload_n hx hy dX6_overlap_56 rfl (lv_at hl 4 rfl) ?_
              refine lv_iload hx hy dX6_overlap_57 (lv_at hl 0 rfl) ?_
              refine zI hI (xV F hI hl (kX6_bitAt l E ((v32, u.2)) jx t (by omega) (by omega)) M_X6_107 (rX6 F hI) rfl ⟨Nat.le_of_ble_eq_true rfl, Nat.le_of_ble_eq_true rfl⟩ ⟨Nat.zero_le _, Nat.zero_le _⟩ rfl (Nat.le_of_ble_eq_true rfl) dX6_overlap_59) (fun r47 v48 H locs hI hp46 => ?_)
              subst hp46
              refine tI (show _ = v32 45 (1000 * jx + t) from rfl) ?_
              refine tI (show _ = nI (bN (bt X.1.2.2 jx t)) from (hbt35 jx (by omega) (t) (by omega))) ?_
              refine lv_aload_n hx hy dX6_overlap_62 rfl (lv_at hl 3 rfl) ?_
              refine lv_iload_n hx hy dX6_overlap_63 rfl (lv_at hl 5 rfl) ?_
              refine lv_iload hx hy dX6_overlap_64 (lv_at hl 0 rfl) ?_
              refine zI hI (xV F hI hl (kX6_bitAt l E ((v32, u.2)) jy t (by omega) (by omega)) M_X6_107 (rX6 F hI) rfl ⟨Nat.le_of_ble_eq_true rfl, Nat.le_of_ble_eq_true rfl⟩ ⟨Nat.zero_le _, Nat.zero_le _⟩ rfl (Nat.le_of_ble_eq_true rfl) dX6_overlap_66) (fun r50 v51 H locs hI hp49 => ?_)
              subst hp49
              refine tI (show _ = v32 45 (1000 * jy + t) from rfl) ?_
              refine tI (show _ = nI (bN (bt X.1.2.2 jy t)) from (hbt35 jy (by omega) (t) (by omega))) ?_
              refine lv_iand hx hy dX6_overlap_69 ?_
              refine tI (nI_and (bN (bt X.1.2.2 jx t)) (bN (bt X.1.2.2 jy t))) ?_
              refine tI (congrArg nI (bN_and (bt X.1.2.2 jx t) (bt X.1.2.2 jy t))) ?_
              have hbl := bN_le (bt X.1.2.2 jx t && bt X.1.2.2 jy t)
              refine lv_i2l (v := lN (bN (bt X.1.2.2 jx t && bt X.1.2.2 jy t))) hx hy dX6_overlap_70 (nI_l (by omega)) ?_
              refine lv_ladd hx hy dX6_overlap_71 ?_
              refine tL (lN_add (both X.1.2.2 jx jy t) (bN (bt X.1.2.2 jx t && bt X.1.2.2 jy t))) ?_
              refine tL (congrArg lN (both_suc X.1.2.2 jx jy t)) ?_
              refine lv_lstore (lv' := [(4, .long (lN (both X.1.2.2 jx jy (t + 1)))), (6, .int (nI t)), (3, .int (nI (X.1.2.1))), (0, .ref (eA E 48)), (1, .int (nI jx)), (2, .int (nI jy))]) hx hy dX6_overlap_72 hl (by decide) rfl (fun ls hl => ?_)
              refine lv_iinc (v := nI (t + 1)) (lv' := [(6, .int (nI (t + 1))), (4, .long (lN (both X.1.2.2 jx jy (t + 1)))), (3, .int (nI (X.1.2.1))), (0, .ref (eA E 48)), (1, .int (nI jx)), (2, .int (nI jy))]) hx hy dX6_overlap_74 hl (k := 1) rfl (nI_add (t) 1) (by decide) rfl (fun ls hl => ?_)
              refine lv_goto (tgt := 47) hx hy dX6_overlap_77 (by decide) ?_
              exact ih_47 (t + 1) (by omega) (by omega) _ _ _ hI (lv_sub hl [0, 1, 2, 3, 4, 5] rfl)
        exact lp36 (X.1.2.1 + 1) 0 (by omega) (by omega) _ _ _ hI (lv_sub hl [0, 1, 2, 3, 4, 5] rfl)
set_option maxHeartbeats 400000 in
set_option maxRecDepth 100000 in
theorem kX6_unlike (l : Launch) (E : EV) (u : SS) {X : XS} (hC : RepM u.1 X) (hX : XOk X) (x : Int32) : CT l yX6_unlike cX6_unlike 4 (some .int) (Rm 3 70) [.ref (eA E 48), .int (x)] E u (Q_i E (fun r v => r = (a_unlike X x).1 ∧ RepM v.1 (a_unlike X x).2 ∧ SameC u.1 v.1) (fun (v : SS) => v)) := by
  refine mstart RX6 (by decide +kernel) rfl (Nat.le_of_ble_eq_true rfl) ?_
  intro p e s m args below meth co ls Q hQ F hI hl
  have hx := F.1
  have hy := F.2.1
  have hl : lv_has ls 4 [(0, .ref (eA E 48)), (1, .int (x))] := hl
  have hC2 := hC
  obtain ⟨hA, hH, hS, hT⟩ := hC2
  have hn16 := hX.1.1
  have hl1 := hX.1.2.1
  have hl2 := hX.1.2.2.1
  have hh4 := hX.2.1.1
  have hs1 := hX.2.2.1.1
  have ht80 := hX.2.2.2.1
  refine lv_aload_n hx hy dX6_unlike_0 rfl (lv_at hl 0 rfl) ?_
  refine lv_iload_n hx hy dX6_unlike_1 rfl (lv_at hl 1 rfl) ?_
  refine zI hI (xV F hI hl (kX6_isLine l E (u) (n := X.1.1) hA.1 (by omega) x) M_X6_91 (rX6 F hI) rfl ⟨Nat.le_of_ble_eq_true rfl, Nat.le_of_ble_eq_true rfl⟩ ⟨Nat.zero_le _, Nat.zero_le _⟩ rfl (Nat.le_of_ble_eq_true rfl) dX6_unlike_2) (fun r2 v3 H locs hI hp1 => ?_)
  rcases ixO_cases X.1.1 x (by omega) with hxx | ⟨jx, hljx, rfl, hxx⟩
  · have hp1 : r2 = 0 := hp1.trans (by rw [hxx]; rfl)
    subst hp1
    refine lv_if_ne (tgt := 11) hx hy dX6_unlike_5 (by decide) (fun q => absurd q (by decide)) (fun _ => ?_)
    refine zc F K_X6_95 dX6_unlike_8 ?_
    exact rI hQ F (v := (u.1, u.2)) hI dX6_unlike_10 (by rw [a_unlike, withL_n hxx]; exact ⟨rfl, hC, SameC.rf _⟩)
  · have hp1 : r2 = 1 := hp1.trans (by rw [hxx]; rfl)
    subst hp1
    have hokjx := hX.1.2.2.2 jx hljx
    have hk6jx := hokjx.1
    have hB9jx := hokjx.2.2.2.2.2.2.1
    have hC9jx := hokjx.2.2.2.2.2.2.2
    refine lv_if_ne (tgt := 11) hx hy dX6_unlike_5 (by decide) (fun _ => ?_) (fun q => absurd q (by decide))
    refine lv_aload_n hx hy dX6_unlike_11 rfl (lv_at hl 0 rfl) ?_
    refine lv_iload_n hx hy dX6_unlike_12 rfl (lv_at hl 1 rfl) ?_
    refine lv_sipush (v := nI 510) hx hy dX6_unlike_13 (by decide) ?_
    refine zV hI (xV F hI hl (kX6_lays l E (u) (z := X.1) hA hX.1 jx 510 (by omega) (by omega)) M_X6_125 (rX6 F hI) rfl ⟨Nat.le_of_ble_eq_true rfl, Nat.le_of_ble_eq_true rfl⟩ ⟨Nat.zero_le _, Nat.zero_le _⟩ rfl (Nat.le_of_ble_eq_true rfl) dX6_unlike_16) (fun v6 H locs hI hp4 => ?_)
    have hsc7 : ScrM u.1 v6 := (ScrM.rf _).tr hp4.2.qo.scr
    have hCs8 := ScrM.rep hC hX hsc7
    have hAhCs8 : RowM v6 41 0 X.1 := hCs8.1
    have hbt9 : ∀ a, a < jx + 1 → BitM X.1.2.2 a (510) v6 := hp4.1
    refine lv_iconst (v := nI 0) hx hy dX6_unlike_19 (by decide) ?_
    refine lv_istore_n (lv' := [(2, .int (nI 0)), (0, .ref (eA E 48)), (1, .int (nI jx))]) hx hy dX6_unlike_20 rfl hl (by decide) rfl (fun ls hl => ?_)
    refine lv_bipush (v := nI 60) hx hy dX6_unlike_21 (by decide) ?_
    refine lv_istore_n (lv' := [(3, .int (nI 60)), (2, .int (nI 0)), (0, .ref (eA E 48)), (1, .int (nI jx))]) hx hy dX6_unlike_23 rfl hl (by decide) rfl (fun ls hl => ?_)
    have lp10 : ∀ (fu : Nat) (k : Nat), (k ≤ 195) → (195 - k < fu) →  ∀ (H : Heap) (locs : List Loc) (ls : Array Slot), Iv E s H locs ((v6, u.2)) → lv_has ls 4 [(3, .int (nI (60 + k))), (2, .int (nI (unlF X.1.2.2 jx k))), (0, .ref (eA E 48)), (1, .int (nI jx))] → W p l e (Rm 3 70) s m args below meth co H locs 0 0 Q (F0 m 24 ls []) := by
      intro fu
      induction fu with
      | zero => intro k hi hf; exact absurd hf (Nat.not_lt_zero _)
      | succ fu ih =>
        intro k hi hf H locs ls hI hl
        have ih_24 := ih
        refine lv_iload_n hx hy dX6_unlike_24 rfl (lv_at hl 0 rfl) ?_
        refine lv_sipush (v := nI 255) hx hy dX6_unlike_25 (by decide) ?_
        refine lv_icmp_ge (tgt := 64) hx hy dX6_unlike_28 (by decide) (fun h11 => ?_) (fun h11 => ?_)
        · have h11 : 255 ≤ 60 + k := (nI_leI (a := 255) (b := 60 + k) (by omega) (by omega)).mp h11
          refine lv_iload_n hx hy dX6_unlike_64 rfl (lv_at hl 1 rfl) ?_
          exact rI hQ F (v := (v6, u.2)) hI dX6_unlike_65 (by rw [a_unlike, withL_s hxx]; exact ⟨by rw [show k = 195 from by omega], ScrM.rep hC hX hsc7, hsc7.c⟩)
        · have h11 : 60 + k < 255 := Nat.lt_of_not_le (fun q9 => h11 ((nI_leI (a := 255) (b := 60 + k) (by omega) (by omega)).mpr q9))
          refine lv_iload_n hx hy dX6_unlike_31 rfl (lv_at hl 1 rfl) ?_
          refine lv_aload_n hx hy dX6_unlike_32 rfl (lv_at hl 2 rfl) ?_
          refine lv_iload_n hx hy dX6_unlike_33 rfl (lv_at hl 3 rfl) ?_
          refine lv_iload_n hx hy dX6_unlike_34 rfl (lv_at hl 0 rfl) ?_
          refine zI hI (xV F hI hl (kX6_bitAt l E ((v6, u.2)) jx (60 + k) (by omega) (by omega)) M_X6_107 (rX6 F hI) rfl ⟨Nat.le_of_ble_eq_true rfl, Nat.le_of_ble_eq_true rfl⟩ ⟨Nat.zero_le _, Nat.zero_le _⟩ rfl (Nat.le_of_ble_eq_true rfl) dX6_unlike_35) (fun r13 v14 H locs hI hp12 => ?_)
          subst hp12
          refine tI (show _ = v6 45 (1000 * jx + (60 + k)) from rfl) ?_
          refine tI (show _ = nI (bN (bt X.1.2.2 jx (60 + k))) from (hbt9 jx (by omega) (60 + k) (by omega))) ?_
          refine lv_aload_n hx hy dX6_unlike_38 rfl (lv_at hl 2 rfl) ?_
          refine lv_iload_n hx hy dX6_unlike_39 rfl (lv_at hl 3 rfl) ?_
          refine lv_iload_n hx hy dX6_unlike_40 rfl (lv_at hl 0 rfl) ?_
          refine lv_sipush (v := nI 255) hx hy dX6_unlike_41 (by decide) ?_
          refine lv_iadd hx hy dX6_unlike_44 ?_
          refine tI (nI_add (60 + k) (255)) ?_
          refine zI hI (xV F hI hl (kX6_bitAt l E ((v6, u.2)) jx (60 + k + 255) (by omega) (by omega)) M_X6_107 (rX6 F hI) rfl ⟨Nat.le_of_ble_eq_true rfl, Nat.le_of_ble_eq_true rfl⟩ ⟨Nat.zero_le _, Nat.zero_le _⟩ rfl (Nat.le_of_ble_eq_true rfl) dX6_unlike_45) (fun r16 v17 H locs hI hp15 => ?_)
          subst hp15
          refine tI (show _ = v6 45 (1000 * jx + (60 + k + 255)) from rfl) ?_
          refine tI (show _ = nI (bN (bt X.1.2.2 jx (60 + k + 255))) from (hbt9 jx (by omega) (60 + k + 255) (by omega))) ?_
          refine lv_icmp_eq (tgt := 55) hx hy dX6_unlike_48 (by decide) (fun h18 => ?_) (fun h18 => ?_)
          · have h18 : bN (bt X.1.2.2 jx (60 + k)) = bN (bt X.1.2.2 jx (60 + k + 255)) := (nI_eq (a := bN (bt X.1.2.2 jx (60 + k))) (b := bN (bt X.1.2.2 jx (60 + k + 255))) (by have := bN_le (bt X.1.2.2 jx (60 + k)); omega) (by have := bN_le (bt X.1.2.2 jx (60 + k + 255)); omega)).mp h18
            refine lv_iconst (v := nI 0) hx hy dX6_unlike_55 (by decide) ?_
            refine lv_iadd hx hy dX6_unlike_56 ?_
            refine tI (nI_add (unlF X.1.2.2 jx k) (0)) ?_
            refine tI (show _ = nI (unlF X.1.2.2 jx (k + 1)) from by rw [unl_eq h18, Nat.add_zero]) ?_
            refine lv_istore_n (lv' := [(2, .int (nI (unlF X.1.2.2 jx (k + 1)))), (3, .int (nI (60 + k))), (0, .ref (eA E 48)), (1, .int (nI jx))]) hx hy dX6_unlike_57 rfl hl (by decide) rfl (fun ls hl => ?_)
            refine lv_iinc (v := nI (60 + k + 1)) (lv' := [(3, .int (nI (60 + k + 1))), (2, .int (nI (unlF X.1.2.2 jx (k + 1)))), (0, .ref (eA E 48)), (1, .int (nI jx))]) hx hy dX6_unlike_58 hl (k := 1) rfl (nI_add (60 + k) 1) (by decide) rfl (fun ls hl => ?_)
            refine lv_goto (tgt := 24) hx hy dX6_unlike_61 (by decide) ?_
            exact ih_24 (k + 1) (by omega) (by omega) _ _ _ hI (lv_sub hl [0, 1, 2, 3] rfl)
          · have h18 : bN (bt X.1.2.2 jx (60 + k)) ≠ bN (bt X.1.2.2 jx (60 + k + 255)) := fun q9 => h18 ((nI_eq (a := bN (bt X.1.2.2 jx (60 + k))) (b := bN (bt X.1.2.2 jx (60 + k + 255))) (by have := bN_le (bt X.1.2.2 jx (60 + k)); omega) (by have := bN_le (bt X.1.2.2 jx (60 + k + 255)); omega)).mpr q9)
            refine lv_iconst (v := nI 1) hx hy dX6_unlike_51 (by decide) ?_
            refine lv_goto (tgt := 56) hx hy dX6_unlike_52 (by decide) ?_
            refine lv_iadd hx hy dX6_unlike_56 ?_
            refine tI (nI_add (unlF X.1.2.2 jx k) (1)) ?_
            refine tI (show _ = nI (unlF X.1.2.2 jx (k + 1)) from by rw [unl_ne h18]) ?_
            refine lv_istore_n (lv' := [(2, .int (nI (unlF X.1.2.2 jx (k + 1)))), (3, .int (nI (60 + k))), (0, .ref (eA E 48)), (1, .int (nI jx))]) hx hy dX6_unlike_57 rfl hl (by decide) rfl (fun ls hl => ?_)
            refine lv_iinc (v := nI (60 + k + 1)) (lv' := [(3, .int (nI (60 + k + 1))), (2, .int (nI (unlF X.1.2.2 jx (k + 1)))), (0, .ref (eA E 48)), (1, .int (nI jx))]) hx hy dX6_unlike_58 hl (k := 1) rfl (nI_add (60 + k) 1) (by decide) rfl (fun ls hl => ?_)
            refine lv_goto (tgt := 24) hx hy dX6_unlike_61 (by decide) ?_
            exact ih_24 (k + 1) (by omega) (by omega) _ _ _ hI (lv_sub hl [0, 1, 2, 3] rfl)
    exact lp10 196 0 (by omega) (by omega) _ _ _ hI (lv_sub hl [0, 1, 2, 3] rfl)
set_option maxHeartbeats 400000 in
set_option maxRecDepth 100000 in
theorem kX6_settles (l : Launch) (E : EV) (u : SS) {X : XS} (hC : RepM u.1 X) (hX : XOk X) (x y : Int32) : CT l yX6_settles cX6_settles 6 (some .int) (Rm 3 70) [.ref (eA E 48), .int (x), .int (y)] E u (Q_i E (fun r v => r = (a_settles X x y).1 ∧ RepM v.1 (a_settles X x y).2 ∧ SameC u.1 v.1) (fun (v : SS) => v)) := by
  refine mstart RX6 (by decide +kernel) rfl (Nat.le_of_ble_eq_true rfl) ?_
  intro p e s m args below meth co ls Q hQ F hI hl
  have hx := F.1
  have hy := F.2.1
  have hl : lv_has ls 6 [(0, .ref (eA E 48)), (1, .int (x)), (2, .int (y))] := hl
  have hC2 := hC
  obtain ⟨hA, hH, hS, hT⟩ := hC2
  have hn16 := hX.1.1
  have hl1 := hX.1.2.1
  have hl2 := hX.1.2.2.1
  have hh4 := hX.2.1.1
  have hs1 := hX.2.2.1.1
  have ht80 := hX.2.2.2.1
  refine lv_aload_n hx hy dX6_settles_0 rfl (lv_at hl 0 rfl) ?_
  refine lv_iload_n hx hy dX6_settles_1 rfl (lv_at hl 1 rfl) ?_
  refine zI hI (xV F hI hl (kX6_isLine l E (u) (n := X.1.1) hA.1 (by omega) x) M_X6_91 (rX6 F hI) rfl ⟨Nat.le_of_ble_eq_true rfl, Nat.le_of_ble_eq_true rfl⟩ ⟨Nat.zero_le _, Nat.zero_le _⟩ rfl (Nat.le_of_ble_eq_true rfl) dX6_settles_2) (fun r2 v3 H locs hI hp1 => ?_)
  rcases ixO_cases X.1.1 x (by omega) with hxx | ⟨jx, hljx, rfl, hxx⟩
  · have hp1 : r2 = 0 := hp1.trans (by rw [hxx]; rfl)
    subst hp1
    refine lv_if_ne (tgt := 11) hx hy dX6_settles_5 (by decide) (fun q => absurd q (by decide)) (fun _ => ?_)
    refine zc F K_X6_95 dX6_settles_8 ?_
    exact rI hQ F (v := (u.1, u.2)) hI dX6_settles_10 (by rw [a_settles, withL_n hxx]; exact ⟨rfl, hC, SameC.rf _⟩)
  · have hp1 : r2 = 1 := hp1.trans (by rw [hxx]; rfl)
    subst hp1
    have hokjx := hX.1.2.2.2 jx hljx
    have hk6jx := hokjx.1
    have hB9jx := hokjx.2.2.2.2.2.2.1
    have hC9jx := hokjx.2.2.2.2.2.2.2
    refine lv_if_ne (tgt := 11) hx hy dX6_settles_5 (by decide) (fun _ => ?_) (fun q => absurd q (by decide))
    refine lv_iload_n hx hy dX6_settles_11 rfl (lv_at hl 2 rfl) ?_
    refine lv_i2l (v := Int32.toInt64 y) hx hy dX6_settles_12 rfl ?_
    refine lv_lconst (v := lN 0) hx hy dX6_settles_13 (by decide) ?_
    refine zcl F K_X6_118 dX6_settles_14 ?_
    refine tL (show _ = lN 65536 from rfl) ?_
    refine zI hI (xS F hI hl (kX6_in l E (u) (Int32.toInt64 y) (lN 0) (lN 65536)) M_X6_65 rfl ⟨Nat.le_of_ble_eq_true rfl, Nat.le_of_ble_eq_true rfl⟩ ⟨Nat.zero_le _, Nat.zero_le _⟩ rfl (Nat.le_of_ble_eq_true rfl) dX6_settles_17) (fun r5 v6 H locs hI hp4 => ?_)
    rcases rgO_cases 0 65536 y (by decide) (by decide) with hxy | ⟨jy, hmjy, hljy, rfl, hxy⟩
    · have hp4 : r5 = 0 := hp4.trans (if_neg (fun q9 => by have q8 := (in_rg (a := 0) (b := 65536) (by decide) (by decide) y).mp q9; rw [hxy] at q8; cases q8))
      subst hp4
      refine lv_if_ne (tgt := 26) hx hy dX6_settles_20 (by decide) (fun q => absurd q (by decide)) (fun _ => ?_)
      refine zc F K_X6_90 dX6_settles_23 ?_
      exact rI hQ F (v := (u.1, u.2)) hI dX6_settles_25 (by rw [a_settles, withL_s hxx, withR_n hxy]; exact ⟨rfl, hC, SameC.rf _⟩)
    · have hp4 : r5 = 1 := hp4.trans (if_pos ((in_rg (a := 0) (b := 65536) (by decide) (by decide) (nI jy)).mpr (by rw [hxy]; rfl)))
      subst hp4
      refine lv_if_ne (tgt := 26) hx hy dX6_settles_20 (by decide) (fun _ => ?_) (fun q => absurd q (by decide))
      refine lv_aload_n hx hy dX6_settles_26 rfl (lv_at hl 0 rfl) ?_
      refine lv_iload_n hx hy dX6_settles_27 rfl (lv_at hl 1 rfl) ?_
      refine lv_sipush (v := nI 1000) hx hy dX6_settles_28 (by decide) ?_
      refine zV hI (xV F hI hl (kX6_lays l E (u) (z := X.1) hA hX.1 jx 1000 (by omega) (by omega)) M_X6_125 (rX6 F hI) rfl ⟨Nat.le_of_ble_eq_true rfl, Nat.le_of_ble_eq_true rfl⟩ ⟨Nat.zero_le _, Nat.zero_le _⟩ rfl (Nat.le_of_ble_eq_true rfl) dX6_settles_31) (fun v9 H locs hI hp7 => ?_)
      have hsc10 : ScrM u.1 v9 := (ScrM.rf _).tr hp7.2.qo.scr
      have hCs11 := ScrM.rep hC hX hsc10
      have hAhCs11 : RowM v9 41 0 X.1 := hCs11.1
      have hbt12 : ∀ a, a < jx + 1 → BitM X.1.2.2 a (1000) v9 := hp7.1
      refine lv_aload_n hx hy dX6_settles_34 rfl (lv_at hl 0 rfl) ?_
      refine lv_iload_n hx hy dX6_settles_35 rfl (lv_at hl 1 rfl) ?_
      refine zV hI (xV F hI hl (kX6_findsExact l E ((v9, u.2)) (z := X.1) hAhCs11 hX.1 jx (by omega)) M_X6_129 (rX6 F hI) rfl ⟨Nat.le_of_ble_eq_true rfl, Nat.le_of_ble_eq_true rfl⟩ ⟨Nat.zero_le _, Nat.zero_le _⟩ rfl (Nat.le_of_ble_eq_true rfl) dX6_settles_36) (fun v15 H locs hI hp13 => ?_)
      have hsc16 : ScrM u.1 v15 := hsc10.tr (QO.scr (fun q i _ _ h => hp13.2 q i h))
      have hCs17 := ScrM.rep hC hX hsc16
      have hAhCs17 : RowM v15 41 0 X.1 := hCs17.1
      have hbt18 : ∀ a, a < jx + 1 → BitM X.1.2.2 a (1000) v15 := fun a ha => (hbt12 a ha).keep (fun i => hp13.2 45 i (by decide))
      refine lv_aload_n hx hy dX6_settles_39 rfl (lv_at hl 0 rfl) ?_
      refine lv_iload_n hx hy dX6_settles_40 rfl (lv_at hl 1 rfl) ?_
      refine lv_sipush (v := nI 1000) hx hy dX6_settles_41 (by decide) ?_
      refine zI hI (xV F hI hl (kX6_countOf l E ((v15, u.2)) (f := X.1.2.2) jx 1000 (by omega) (by omega) (hbt18 jx (by omega))) M_X6_133 (rX6 F hI) rfl ⟨Nat.le_of_ble_eq_true rfl, Nat.le_of_ble_eq_true rfl⟩ ⟨Nat.zero_le _, Nat.zero_le _⟩ rfl (Nat.le_of_ble_eq_true rfl) dX6_settles_44) (fun r20 v21 H locs hI hp19 => ?_)
      subst hp19
      have hcl22 := cnt_le X.1.2.2 jx 1000
      refine lv_istore_n (lv' := [(3, .int (nI (cnt X.1.2.2 jx 1000))), (0, .ref (eA E 48)), (1, .int (nI jx)), (2, .int (nI jy))]) hx hy dX6_settles_47 rfl hl (by decide) rfl (fun ls hl => ?_)
      refine zc F K_X6_85 dX6_settles_48 ?_
      refine lv_istore (lv' := [(4, .int ((-100000005))), (3, .int (nI (cnt X.1.2.2 jx 1000))), (0, .ref (eA E 48)), (1, .int (nI jx)), (2, .int (nI jy))]) hx hy dX6_settles_50 hl (by decide) rfl (fun ls hl => ?_)
      refine lv_sipush (v := nI 1000) hx hy dX6_settles_52 (by decide) ?_
      refine lv_istore (lv' := [(5, .int (nI 1000)), (4, .int ((-100000005))), (3, .int (nI (cnt X.1.2.2 jx 1000))), (0, .ref (eA E 48)), (1, .int (nI jx)), (2, .int (nI jy))]) hx hy dX6_settles_55 hl (by decide) rfl (fun ls hl => ?_)
      have lp23 : ∀ (fu : Nat) (n : Nat), (n ≤ 1000) → (n < fu) → (∀ m, n < m → m ≤ 1000 → errN X.1.2.2 jx m ≤ jy) →  ∀ (H : Heap) (locs : List Loc) (ls : Array Slot), Iv E s H locs ((v15, u.2)) → lv_has ls 6 [(5, .int (nI n)), (4, .int (if n = 1000 then NON else nI (n + 1))), (3, .int (nI (cnt X.1.2.2 jx n))), (0, .ref (eA E 48)), (1, .int (nI jx)), (2, .int (nI jy))] → W p l e (Rm 3 70) s m args below meth co H locs 0 0 Q (F0 m 57 ls []) := by
        intro fu
        induction fu with
        | zero => intro n hi hf hm; exact absurd hf (Nat.not_lt_zero _)
        | succ fu ih =>
          intro n hi hf hm H locs ls hI hl
          have ih_57 := ih
          refine lv_iload hx hy dX6_settles_57 (lv_at hl 0 rfl) ?_
          refine lv_if_le (tgt := 96) hx hy dX6_settles_59 (by decide) (fun h24 => ?_) (fun h24 => ?_)
          · have h24 : n ≤ 0 := (nI_leI (a := n) (b := 0) (by omega) (by omega)).mp h24
            refine lv_iload hx hy dX6_settles_96 (lv_at hl 1 rfl) ?_
            exact rI hQ F (v := (v15, u.2)) hI dX6_settles_98 (by rw [a_settles, withL_s hxx, withR_s hxy]; exact ⟨by rw [last_eq (n := n) 1000 hi hm (by omega)], ScrM.rep hC hX hsc16, hsc16.c⟩)
          · have h24 : 0 < n := Nat.lt_of_not_le (fun q9 => h24 ((nI_leI (a := n) (b := 0) (by omega) (by omega)).mpr q9))
            refine lv_aload_n hx hy dX6_settles_62 rfl (lv_at hl 3 rfl) ?_
            refine lv_iload_n hx hy dX6_settles_63 rfl (lv_at hl 4 rfl) ?_
            refine lv_iload_n hx hy dX6_settles_64 rfl (lv_at hl 2 rfl) ?_
            refine lv_iload hx hy dX6_settles_65 (lv_at hl 0 rfl) ?_
            have hxl24 := ex_le hX.1.2.2.2 jx (by omega)
            refine zI hI (xV F hI hl (kX6_errorBy l E ((v15, u.2)) jx (cnt X.1.2.2 jx n) (n) (ex X.1.2.2 jx) (by omega) (hp13.1 _ (by omega)) (by omega) (cnt_le _ _ _) (by omega) (by omega)) M_X6_136 (rX6 F hI) rfl ⟨Nat.le_of_ble_eq_true rfl, Nat.le_of_ble_eq_true rfl⟩ ⟨Nat.zero_le _, Nat.zero_le _⟩ rfl (Nat.le_of_ble_eq_true rfl) dX6_settles_67) (fun r26 v27 H locs hI hp25 => ?_)
            subst hp25
            refine tI (show _ = nI (errN X.1.2.2 jx n) from rfl) ?_
            refine lv_iload_n hx hy dX6_settles_70 rfl (lv_at hl 5 rfl) ?_
            refine lv_icmp_gt (tgt := 96) hx hy dX6_settles_71 (by decide) (fun h28 => ?_) (fun h28 => ?_)
            · have h28 : jy < errN X.1.2.2 jx n := (nI_ltI (a := jy) (b := errN X.1.2.2 jx n) (by have := errN_le (t := n) (ex_le hX.1.2.2.2 jx hljx); omega) (by have := errN_le (t := n) (ex_le hX.1.2.2.2 jx hljx); omega)).mp h28
              refine lv_iload hx hy dX6_settles_96 (lv_at hl 1 rfl) ?_
              exact rI hQ F (v := (v15, u.2)) hI dX6_settles_98 (by rw [a_settles, withL_s hxx, withR_s hxy]; exact ⟨by rw [last_eq (n := n) 1000 hi hm (by omega)], ScrM.rep hC hX hsc16, hsc16.c⟩)
            · have h28 : errN X.1.2.2 jx n ≤ jy := Nat.le_of_not_lt (fun q9 => h28 ((nI_ltI (a := jy) (b := errN X.1.2.2 jx n) (by have := errN_le (t := n) (ex_le hX.1.2.2.2 jx hljx); omega) (by have := errN_le (t := n) (ex_le hX.1.2.2.2 jx hljx); omega)).mpr q9))
              refine lv_iload hx hy dX6_settles_74 (lv_at hl 0 rfl) ?_
              refine lv_istore (lv' := [(4, .int (nI n)), (5, .int (nI n)), (3, .int (nI (cnt X.1.2.2 jx n))), (0, .ref (eA E 48)), (1, .int (nI jx)), (2, .int (nI jy))]) hx hy dX6_settles_76 hl (by decide) rfl (fun ls hl => ?_)
              refine lv_iload_n hx hy dX6_settles_78 rfl (lv_at hl 2 rfl) ?_
              refine lv_aload_n hx hy dX6_settles_79 rfl (lv_at hl 3 rfl) ?_
              refine lv_iload_n hx hy dX6_settles_80 rfl (lv_at hl 4 rfl) ?_
              refine lv_iload hx hy dX6_settles_81 (lv_at hl 1 rfl) ?_
              refine lv_iconst (v := nI 1) hx hy dX6_settles_83 (by decide) ?_
              refine lv_isub hx hy dX6_settles_84 ?_
              refine tI (pk_sub (a := n) (b := 1) (by omega)) ?_
              refine zI hI (xV F hI hl (kX6_bitAt l E ((v15, u.2)) jx (n - 1) (by omega) (by omega)) M_X6_107 (rX6 F hI) rfl ⟨Nat.le_of_ble_eq_true rfl, Nat.le_of_ble_eq_true rfl⟩ ⟨Nat.zero_le _, Nat.zero_le _⟩ rfl (Nat.le_of_ble_eq_true rfl) dX6_settles_85) (fun r30 v31 H locs hI hp29 => ?_)
              subst hp29
              refine tI (show _ = v15 45 (1000 * jx + (n - 1)) from rfl) ?_
              refine tI (show _ = nI (bN (bt X.1.2.2 jx (n - 1))) from (hbt18 jx (by omega) (n - 1) (by omega))) ?_
              refine lv_isub hx hy dX6_settles_88 ?_
              refine tI (pk_sub (a := cnt X.1.2.2 jx n) (b := bN (bt X.1.2.2 jx (n - 1))) (by have := cnt_pre X.1.2.2 jx n (by omega); have := cnt_suc X.1.2.2 jx (n - 1); rw [show n - 1 + 1 = n from by omega] at this; omega)) ?_
              refine lv_istore_n (lv' := [(3, .int (nI ((cnt X.1.2.2 jx n) - (bN (bt X.1.2.2 jx (n - 1)))))), (4, .int (nI n)), (5, .int (nI n)), (0, .ref (eA E 48)), (1, .int (nI jx)), (2, .int (nI jy))]) hx hy dX6_settles_89 rfl hl (by decide) rfl (fun ls hl => ?_)
              refine lv_iinc (v := nI (n - 1)) (lv' := [(5, .int (nI (n - 1))), (3, .int (nI ((cnt X.1.2.2 jx n) - (bN (bt X.1.2.2 jx (n - 1)))))), (4, .int (nI n)), (0, .ref (eA E 48)), (1, .int (nI jx)), (2, .int (nI jy))]) hx hy dX6_settles_90 hl (k := 2) rfl (sb_m1 (by omega)) (by decide) rfl (fun ls hl => ?_)
              have hl : lv_has ls 6 [(5, .int (nI (n - 1))), (3, .int (nI (cnt X.1.2.2 jx (n - 1)))), (4, .int (if n - 1 = 1000 then NON else nI (n - 1 + 1))), (0, .ref (eA E 48)), (1, .int (nI jx)), (2, .int (nI jy))] := by rw [if_neg (by omega), show n - 1 + 1 = n from by omega, ← cnt_pre X.1.2.2 jx n (by omega)]; exact hl
              refine lv_goto (tgt := 57) hx hy dX6_settles_93 (by decide) ?_
              exact ih_57 (n - 1) (by omega) (by omega) (fun m h1 h2 => by by_cases e6 : m = n; rw [e6]; exact h28; exact hm m (by omega) h2) _ _ _ hI (lv_sub hl [0, 2, 1, 3, 4, 5] rfl)
      exact lp23 1001 1000 (by omega) (by omega) (fun m h1 h2 => absurd h2 (by omega)) _ _ _ hI (lv_sub hl [0, 1, 2, 3, 4, 5] rfl)
