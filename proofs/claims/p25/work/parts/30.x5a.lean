set_option maxHeartbeats 400000 in
set_option maxRecDepth 100000 in
theorem kX5_addLine (l : Launch) (E : EV) (u : SS) {X : XS} (hC : RepC u.1 X) (hX : XOk X) (k f s_ t : Nat) : CT l yX5_addLine cX5_addLine 5 (some .int) (Rm 6 134) [.ref (eA E 0), .int (nI k), .int (nI f), .int (nI s_), .int (nI t)] E u (Q_i E (fun r v => r = (addL X (k, f, s_, t)).1 ∧ RepC v.1 (addL X (k, f, s_, t)).2 ∧ SameM u.1 v.1) (fun (v : SS) => v)) := by
  refine mstart RX5 (by decide +kernel) rfl (Nat.le_of_ble_eq_true rfl) ?_
  intro p e s m args below meth co ls Q hQ F hI hl
  have hx := F.1
  have hy := F.2.1
  have hl : lv_has ls 5 [(0, .ref (eA E 0)), (1, .int (nI k)), (2, .int (nI f)), (3, .int (nI s_)), (4, .int (nI t))] := hl
  have hC2 := hC
  obtain ⟨hB, ⟨o, hH⟩, hS, hT⟩ := hC2
  have hn16 := hX.1.1
  have hl1 := hX.1.2.1
  have hl2 := hX.1.2.2.1
  have hh4 := hX.2.1.1
  have ht80 := hT.2.1
  refine lv_aload_n hx hy dX5_addLine_0 rfl (lv_at hl 0 rfl) ?_
  refine gX5_bench F hI L_X5_10 dX5_addLine_1 ?_
  refine gX0_size F hI (b := 0) (by decide) L_X5_90 dX5_addLine_4 ?_
  refine tI hB.2.1 ?_
  refine lv_bipush (v := nI 16) hx hy dX5_addLine_7 (by decide) ?_
  refine lv_icmp_lt (tgt := 15) hx hy dX5_addLine_9 (by decide) (fun h1 => ?_) (fun h1 => ?_)
  · have h1 : X.1.1 < 16 := (nI_ltI (a := X.1.1) (b := 16) (by omega) (by omega)).mp h1
    refine lv_aload_n hx hy dX5_addLine_15 rfl (lv_at hl 0 rfl) ?_
    refine gX5_history F hI L_X5_29 dX5_addLine_16 ?_
    refine lv_aload_n hx hy dX5_addLine_19 rfl (lv_at hl 0 rfl) ?_
    refine gX5_bench F hI L_X5_10 dX5_addLine_20 ?_
    refine zV hI (xV F hI hl (kX3_push l E (u) hH.2.1 hH.1 hH.2.2.1 hX.2.1.1 hB.2.1 hX.1.1) M_X5_82 (rX3 F hI) rfl ⟨Nat.le_of_ble_eq_true rfl, Nat.le_of_ble_eq_true rfl⟩ ⟨Nat.zero_le _, Nat.zero_le _⟩ rfl (Nat.le_of_ble_eq_true rfl) dX5_addLine_23) (fun v4 H locs hI hp2 => ?_)
    have hR1 := hp2.rep rfl hX hB hH hS hT
    have hRB1 : RepB 0 v4 X.1 := hR1.1.1
    refine lv_aload_n hx hy dX5_addLine_26 rfl (lv_at hl 0 rfl) ?_
    refine gX5_bench F hI L_X5_10 dX5_addLine_27 ?_
    refine lv_iload_n hx hy dX5_addLine_30 rfl (lv_at hl 1 rfl) ?_
    refine lv_iload_n hx hy dX5_addLine_31 rfl (lv_at hl 2 rfl) ?_
    refine lv_iload_n hx hy dX5_addLine_32 rfl (lv_at hl 3 rfl) ?_
    refine lv_iload hx hy dX5_addLine_33 (lv_at hl 4 rfl) ?_
    refine zV hI (xV F hI hl (kX0_add l E ((v4, u.2)) (b := 0) (by decide) hRB1.2.1 (by omega) (nI k) (nI f) (nI s_) (nI t)) M_X5_190 (rX0 F hI (b := 0) (by decide)) rfl ⟨Nat.le_of_ble_eq_true rfl, Nat.le_of_ble_eq_true rfl⟩ ⟨Nat.zero_le _, Nat.zero_le _⟩ rfl (Nat.le_of_ble_eq_true rfl) dX5_addLine_35) (fun v7 H locs hI hp5 => ?_)
    subst hp5
    obtain ⟨c8, ec8⟩ : ∃ z9 : CF, z9 = addC 0 (X.1.1) (nI k) (nI f) (nI s_) (nI t) v4 := ⟨_, rfl⟩
    have hI : Iv E s H locs (c8, u.2) := by rw [ec8]; exact hI
    refine lv_aload_n hx hy dX5_addLine_38 rfl (lv_at hl 0 rfl) ?_
    refine gX5_bench F hI L_X5_10 dX5_addLine_39 ?_
    refine gX0_size F hI (b := 0) (by decide) L_X5_90 dX5_addLine_42 ?_
    refine tI (show _ = c8 2 0 from rfl) ?_
    refine tI (show c8 2 0 = nI (X.1.1 + 1) by rw [ec8]; exact addC_s _ _ _ _ _ _ _) ?_
    refine lv_iconst (v := nI 1) hx hy dX5_addLine_45 (by decide) ?_
    refine lv_isub hx hy dX5_addLine_46 ?_
    refine tI (pk_sub (a := X.1.1 + 1) (b := 1) (by omega)) ?_
    exact rI hQ F (v := (c8, u.2)) hI dX5_addLine_47 (by unfold addL; rw [if_neg (by omega)]; have h9 := Onl0.rep (c' := c8) hR1.1 (by rw [ec8]; exact addC_onl) (by rw [ec8]; exact hRB1.add); exact ⟨rfl, h9.1, hR1.2.tr h9.2⟩)
  · have h1 : 16 ≤ X.1.1 := Nat.le_of_not_lt (fun q9 => h1 ((nI_ltI (a := X.1.1) (b := 16) (by omega) (by omega)).mpr q9))
    refine zc F K_X5_109 dX5_addLine_12 ?_
    exact rI hQ F (v := (u.1, u.2)) hI dX5_addLine_14 (by unfold addL; rw [if_pos (by omega)]; exact ⟨rfl, hC, SameM.rf _⟩)
set_option maxHeartbeats 400000 in
set_option maxRecDepth 100000 in
theorem kX5_source (l : Launch) (E : EV) (u : SS) {X : XS} (hC : RepC u.1 X) (hX : XOk X) (x y : Int32) : CT l yX5_source cX5_source 3 (some .int) (Rm 7 158) [.ref (eA E 0), .int (x), .int (y)] E u (Q_i E (fun r v => r = (a_source X x y).1 ∧ RepC v.1 (a_source X x y).2 ∧ SameM u.1 v.1) (fun (v : SS) => v)) := by
  refine mstart RX5 (by decide +kernel) rfl (Nat.le_of_ble_eq_true rfl) ?_
  intro p e s m args below meth co ls Q hQ F hI hl
  have hx := F.1
  have hy := F.2.1
  have hl : lv_has ls 3 [(0, .ref (eA E 0)), (1, .int (x)), (2, .int (y))] := hl
  have hC2 := hC
  obtain ⟨hB, ⟨o, hH⟩, hS, hT⟩ := hC2
  have hn16 := hX.1.1
  have hl1 := hX.1.2.1
  have hl2 := hX.1.2.2.1
  have hh4 := hX.2.1.1
  have ht80 := hT.2.1
  refine lv_iload_n hx hy dX5_source_0 rfl (lv_at hl 1 rfl) ?_
  refine lv_iload_n hx hy dX5_source_1 rfl (lv_at hl 2 rfl) ?_
  refine zI hI (xS F hI hl (kX5_isShareAndSeed l E (u) x y) M_X5_54 rfl ⟨Nat.le_of_ble_eq_true rfl, Nat.le_of_ble_eq_true rfl⟩ ⟨Nat.zero_le _, Nat.zero_le _⟩ rfl (Nat.le_of_ble_eq_true rfl) dX5_source_2) (fun r2 v3 H locs hI hp1 => ?_)
  rcases rgO_cases 0 256 x (by decide) (by decide) with hxx | ⟨jx, hmjx, hljx, rfl, hxx⟩
  · have hp1 : r2 = 0 := hp1.trans (if_neg (fun q9 => by rw [hxx] at q9; cases q9.1))
    subst hp1
    refine lv_if_ne (tgt := 11) hx hy dX5_source_5 (by decide) (fun q => absurd q (by decide)) (fun _ => ?_)
    refine zc F K_X5_58 dX5_source_8 ?_
    exact rI hQ F (v := (u.1, u.2)) hI dX5_source_10 (by rw [a_source, withR_n hxx]; exact ⟨rfl, hC, SameM.rf _⟩)
  · rcases rgO_cases 1 255 y (by decide) (by decide) with hxy | ⟨jy, hmjy, hljy, rfl, hxy⟩
    · have hp1 : r2 = 0 := hp1.trans (if_neg (fun q9 => by rw [hxy] at q9; cases q9.2))
      subst hp1
      refine lv_if_ne (tgt := 11) hx hy dX5_source_5 (by decide) (fun q => absurd q (by decide)) (fun _ => ?_)
      refine zc F K_X5_58 dX5_source_8 ?_
      exact rI hQ F (v := (u.1, u.2)) hI dX5_source_10 (by rw [a_source, withR_s hxx, withR_n hxy]; exact ⟨rfl, hC, SameM.rf _⟩)
    · have hp1 : r2 = 1 := hp1.trans (if_pos (by rw [hxx, hxy]; exact ⟨rfl, rfl⟩))
      subst hp1
      refine lv_if_ne (tgt := 11) hx hy dX5_source_5 (by decide) (fun _ => ?_) (fun q => absurd q (by decide))
      refine lv_aload_n hx hy dX5_source_11 rfl (lv_at hl 0 rfl) ?_
      refine lv_iconst (v := nI 0) hx hy dX5_source_12 (by decide) ?_
      refine lv_iload_n hx hy dX5_source_13 rfl (lv_at hl 1 rfl) ?_
      refine lv_iload_n hx hy dX5_source_14 rfl (lv_at hl 2 rfl) ?_
      refine lv_iconst (v := nI 0) hx hy dX5_source_15 (by decide) ?_
      refine zI hI (xV F hI hl (kX5_addLine l E (u) hC hX 0 jx jy 0) M_X5_59 (rX5 F hI) rfl ⟨Nat.le_of_ble_eq_true rfl, Nat.le_of_ble_eq_true rfl⟩ ⟨Nat.zero_le _, Nat.zero_le _⟩ rfl (Nat.le_of_ble_eq_true rfl) dX5_source_16) (fun r5 v6 H locs hI hp4 => ?_)
      exact rI hQ F (v := (v6.1, v6.2)) hI dX5_source_19 (by rw [a_source, withR_s hxx, withR_s hxy]; exact hp4)
set_option maxHeartbeats 400000 in
set_option maxRecDepth 100000 in
theorem kX5_gate (l : Launch) (E : EV) (u : SS) {X : XS} (hC : RepC u.1 X) (hX : XOk X) (k x y : Int32) : CT l yX5_gate cX5_gate 4 (some .int) (Rm 7 158) [.ref (eA E 0), .int (k), .int (x), .int (y)] E u (Q_i E (fun r v => r = (a_gate X k x y).1 ∧ RepC v.1 (a_gate X k x y).2 ∧ SameM u.1 v.1) (fun (v : SS) => v)) := by
  refine mstart RX5 (by decide +kernel) rfl (Nat.le_of_ble_eq_true rfl) ?_
  intro p e s m args below meth co ls Q hQ F hI hl
  have hx := F.1
  have hy := F.2.1
  have hl : lv_has ls 4 [(0, .ref (eA E 0)), (1, .int (k)), (2, .int (x)), (3, .int (y))] := hl
  have hC2 := hC
  obtain ⟨hB, ⟨o, hH⟩, hS, hT⟩ := hC2
  have hn16 := hX.1.1
  have hl1 := hX.1.2.1
  have hl2 := hX.1.2.2.1
  have hh4 := hX.2.1.1
  have ht80 := hT.2.1
  refine lv_aload_n hx hy dX5_gate_0 rfl (lv_at hl 0 rfl) ?_
  refine gX5_bench F hI L_X5_10 dX5_gate_1 ?_
  refine lv_iload_n hx hy dX5_gate_4 rfl (lv_at hl 2 rfl) ?_
  refine zI hI (xV F hI hl (kX0_has l E (u) (b := 0) (n := X.1.1) (by decide) hB.2.1 (by omega) x) M_X5_63 (rX0 F hI (b := 0) (by decide)) rfl ⟨Nat.le_of_ble_eq_true rfl, Nat.le_of_ble_eq_true rfl⟩ ⟨Nat.zero_le _, Nat.zero_le _⟩ rfl (Nat.le_of_ble_eq_true rfl) dX5_gate_5) (fun r2 v3 H locs hI hp1 => ?_)
  rcases ixO_cases X.1.1 x (by omega) with hxx | ⟨jx, hljx, rfl, hxx⟩
  · have hp1 : r2 = 0 := hp1.trans (by rw [hxx]; rfl)
    subst hp1
    refine lv_if_eq (tgt := 22) hx hy dX5_gate_8 (by decide) (fun _ => ?_) (fun q => absurd q (by decide))
    refine zc F K_X5_67 dX5_gate_22 ?_
    exact rI hQ F (v := (u.1, u.2)) hI dX5_gate_24 (by rw [a_gate, withL_n hxx]; exact ⟨rfl, hC, SameM.rf _⟩)
  · have hp1 : r2 = 1 := hp1.trans (by rw [hxx]; rfl)
    subst hp1
    have hokjx := hX.1.2.2.2 jx hljx
    have hk6jx := hokjx.1
    have hB9jx := hokjx.2.2.2.2.2.2.1
    have hC9jx := hokjx.2.2.2.2.2.2.2
    refine lv_if_eq (tgt := 22) hx hy dX5_gate_8 (by decide) (fun q => absurd q (by decide)) (fun _ => ?_)
    refine lv_aload_n hx hy dX5_gate_11 rfl (lv_at hl 0 rfl) ?_
    refine gX5_bench F hI L_X5_10 dX5_gate_12 ?_
    refine lv_iload_n hx hy dX5_gate_15 rfl (lv_at hl 3 rfl) ?_
    refine zI hI (xV F hI hl (kX0_has l E (u) (b := 0) (n := X.1.1) (by decide) hB.2.1 (by omega) y) M_X5_63 (rX0 F hI (b := 0) (by decide)) rfl ⟨Nat.le_of_ble_eq_true rfl, Nat.le_of_ble_eq_true rfl⟩ ⟨Nat.zero_le _, Nat.zero_le _⟩ rfl (Nat.le_of_ble_eq_true rfl) dX5_gate_16) (fun r5 v6 H locs hI hp4 => ?_)
    rcases ixO_cases X.1.1 y (by omega) with hxy | ⟨jy, hljy, rfl, hxy⟩
    · have hp4 : r5 = 0 := hp4.trans (by rw [hxy]; rfl)
      subst hp4
      refine lv_if_ne (tgt := 25) hx hy dX5_gate_19 (by decide) (fun q => absurd q (by decide)) (fun _ => ?_)
      refine zc F K_X5_67 dX5_gate_22 ?_
      exact rI hQ F (v := (u.1, u.2)) hI dX5_gate_24 (by rw [a_gate, withL_s hxx, withL_n hxy]; exact ⟨rfl, hC, SameM.rf _⟩)
    · have hp4 : r5 = 1 := hp4.trans (by rw [hxy]; rfl)
      subst hp4
      have hokjy := hX.1.2.2.2 jy hljy
      have hk6jy := hokjy.1
      have hB9jy := hokjy.2.2.2.2.2.2.1
      have hC9jy := hokjy.2.2.2.2.2.2.2
      refine lv_if_ne (tgt := 25) hx hy dX5_gate_19 (by decide) (fun _ => ?_) (fun q => absurd q (by decide))
      refine lv_iload_n hx hy dX5_gate_25 rfl (lv_at hl 1 rfl) ?_
      refine lv_iconst (v := nI 1) hx hy dX5_gate_26 (by decide) ?_
      refine lv_iconst (v := nI 3) hx hy dX5_gate_27 (by decide) ?_
      refine zI hI (xS F hI hl (kX5_isWithin l E (u) 1 3 k) M_X5_68 rfl ⟨Nat.le_of_ble_eq_true rfl, Nat.le_of_ble_eq_true rfl⟩ ⟨Nat.zero_le _, Nat.zero_le _⟩ rfl (Nat.le_of_ble_eq_true rfl) dX5_gate_28) (fun r8 v9 H locs hI hp7 => ?_)
      rcases rgO_cases 1 3 k (by decide) (by decide) with hxk | ⟨jk, hmjk, hljk, rfl, hxk⟩
      · have hp7 : r8 = 0 := hp7.trans (by rw [hxk]; rfl)
        subst hp7
        refine lv_if_ne (tgt := 37) hx hy dX5_gate_31 (by decide) (fun q => absurd q (by decide)) (fun _ => ?_)
        refine zc F K_X5_58 dX5_gate_34 ?_
        exact rI hQ F (v := (u.1, u.2)) hI dX5_gate_36 (by rw [a_gate, withL_s hxx, withL_s hxy, withR_n hxk]; exact ⟨rfl, hC, SameM.rf _⟩)
      · have hp7 : r8 = 1 := hp7.trans (by rw [hxk]; rfl)
        subst hp7
        refine lv_if_ne (tgt := 37) hx hy dX5_gate_31 (by decide) (fun _ => ?_) (fun q => absurd q (by decide))
        refine lv_aload_n hx hy dX5_gate_37 rfl (lv_at hl 0 rfl) ?_
        refine lv_iload_n hx hy dX5_gate_38 rfl (lv_at hl 1 rfl) ?_
        refine lv_iload_n hx hy dX5_gate_39 rfl (lv_at hl 2 rfl) ?_
        refine lv_iload_n hx hy dX5_gate_40 rfl (lv_at hl 3 rfl) ?_
        refine lv_iconst (v := nI 0) hx hy dX5_gate_41 (by decide) ?_
        refine zI hI (xV F hI hl (kX5_addLine l E (u) hC hX jk jx jy 0) M_X5_59 (rX5 F hI) rfl ⟨Nat.le_of_ble_eq_true rfl, Nat.le_of_ble_eq_true rfl⟩ ⟨Nat.zero_le _, Nat.zero_le _⟩ rfl (Nat.le_of_ble_eq_true rfl) dX5_gate_42) (fun r11 v12 H locs hI hp10 => ?_)
        exact rI hQ F (v := (v12.1, v12.2)) hI dX5_gate_45 (by rw [a_gate, withL_s hxx, withL_s hxy, withR_s hxk]; exact hp10)
set_option maxHeartbeats 400000 in
set_option maxRecDepth 100000 in
theorem kX5_choose (l : Launch) (E : EV) (u : SS) {X : XS} (hC : RepC u.1 X) (hX : XOk X) (x y w : Int32) : CT l yX5_choose cX5_choose 4 (some .int) (Rm 7 158) [.ref (eA E 0), .int (x), .int (y), .int (w)] E u (Q_i E (fun r v => r = (a_choose X x y w).1 ∧ RepC v.1 (a_choose X x y w).2 ∧ SameM u.1 v.1) (fun (v : SS) => v)) := by
  refine mstart RX5 (by decide +kernel) rfl (Nat.le_of_ble_eq_true rfl) ?_
  intro p e s m args below meth co ls Q hQ F hI hl
  have hx := F.1
  have hy := F.2.1
  have hl : lv_has ls 4 [(0, .ref (eA E 0)), (1, .int (x)), (2, .int (y)), (3, .int (w))] := hl
  have hC2 := hC
  obtain ⟨hB, ⟨o, hH⟩, hS, hT⟩ := hC2
  have hn16 := hX.1.1
  have hl1 := hX.1.2.1
  have hl2 := hX.1.2.2.1
  have hh4 := hX.2.1.1
  have ht80 := hT.2.1
  refine lv_aload_n hx hy dX5_choose_0 rfl (lv_at hl 0 rfl) ?_
  refine gX5_bench F hI L_X5_10 dX5_choose_1 ?_
  refine lv_iload_n hx hy dX5_choose_4 rfl (lv_at hl 1 rfl) ?_
  refine zI hI (xV F hI hl (kX0_has l E (u) (b := 0) (n := X.1.1) (by decide) hB.2.1 (by omega) x) M_X5_63 (rX0 F hI (b := 0) (by decide)) rfl ⟨Nat.le_of_ble_eq_true rfl, Nat.le_of_ble_eq_true rfl⟩ ⟨Nat.zero_le _, Nat.zero_le _⟩ rfl (Nat.le_of_ble_eq_true rfl) dX5_choose_5) (fun r2 v3 H locs hI hp1 => ?_)
  rcases ixO_cases X.1.1 x (by omega) with hxx | ⟨jx, hljx, rfl, hxx⟩
  · have hp1 : r2 = 0 := hp1.trans (by rw [hxx]; rfl)
    subst hp1
    refine lv_if_eq (tgt := 33) hx hy dX5_choose_8 (by decide) (fun _ => ?_) (fun q => absurd q (by decide))
    refine zc F K_X5_67 dX5_choose_33 ?_
    exact rI hQ F (v := (u.1, u.2)) hI dX5_choose_35 (by rw [a_choose, withL_n hxx]; exact ⟨rfl, hC, SameM.rf _⟩)
  · have hp1 : r2 = 1 := hp1.trans (by rw [hxx]; rfl)
    subst hp1
    have hokjx := hX.1.2.2.2 jx hljx
    have hk6jx := hokjx.1
    have hB9jx := hokjx.2.2.2.2.2.2.1
    have hC9jx := hokjx.2.2.2.2.2.2.2
    refine lv_if_eq (tgt := 33) hx hy dX5_choose_8 (by decide) (fun q => absurd q (by decide)) (fun _ => ?_)
    refine lv_aload_n hx hy dX5_choose_11 rfl (lv_at hl 0 rfl) ?_
    refine gX5_bench F hI L_X5_10 dX5_choose_12 ?_
    refine lv_iload_n hx hy dX5_choose_15 rfl (lv_at hl 2 rfl) ?_
    refine zI hI (xV F hI hl (kX0_has l E (u) (b := 0) (n := X.1.1) (by decide) hB.2.1 (by omega) y) M_X5_63 (rX0 F hI (b := 0) (by decide)) rfl ⟨Nat.le_of_ble_eq_true rfl, Nat.le_of_ble_eq_true rfl⟩ ⟨Nat.zero_le _, Nat.zero_le _⟩ rfl (Nat.le_of_ble_eq_true rfl) dX5_choose_16) (fun r5 v6 H locs hI hp4 => ?_)
    rcases ixO_cases X.1.1 y (by omega) with hxy | ⟨jy, hljy, rfl, hxy⟩
    · have hp4 : r5 = 0 := hp4.trans (by rw [hxy]; rfl)
      subst hp4
      refine lv_if_eq (tgt := 33) hx hy dX5_choose_19 (by decide) (fun _ => ?_) (fun q => absurd q (by decide))
      refine zc F K_X5_67 dX5_choose_33 ?_
      exact rI hQ F (v := (u.1, u.2)) hI dX5_choose_35 (by rw [a_choose, withL_s hxx, withL_n hxy]; exact ⟨rfl, hC, SameM.rf _⟩)
    · have hp4 : r5 = 1 := hp4.trans (by rw [hxy]; rfl)
      subst hp4
      have hokjy := hX.1.2.2.2 jy hljy
      have hk6jy := hokjy.1
      have hB9jy := hokjy.2.2.2.2.2.2.1
      have hC9jy := hokjy.2.2.2.2.2.2.2
      refine lv_if_eq (tgt := 33) hx hy dX5_choose_19 (by decide) (fun q => absurd q (by decide)) (fun _ => ?_)
      refine lv_aload_n hx hy dX5_choose_22 rfl (lv_at hl 0 rfl) ?_
      refine gX5_bench F hI L_X5_10 dX5_choose_23 ?_
      refine lv_iload_n hx hy dX5_choose_26 rfl (lv_at hl 3 rfl) ?_
      refine zI hI (xV F hI hl (kX0_has l E (u) (b := 0) (n := X.1.1) (by decide) hB.2.1 (by omega) w) M_X5_63 (rX0 F hI (b := 0) (by decide)) rfl ⟨Nat.le_of_ble_eq_true rfl, Nat.le_of_ble_eq_true rfl⟩ ⟨Nat.zero_le _, Nat.zero_le _⟩ rfl (Nat.le_of_ble_eq_true rfl) dX5_choose_27) (fun r8 v9 H locs hI hp7 => ?_)
      rcases ixO_cases X.1.1 w (by omega) with hxw | ⟨jw, hljw, rfl, hxw⟩
      · have hp7 : r8 = 0 := hp7.trans (by rw [hxw]; rfl)
        subst hp7
        refine lv_if_ne (tgt := 36) hx hy dX5_choose_30 (by decide) (fun q => absurd q (by decide)) (fun _ => ?_)
        refine zc F K_X5_67 dX5_choose_33 ?_
        exact rI hQ F (v := (u.1, u.2)) hI dX5_choose_35 (by rw [a_choose, withL_s hxx, withL_s hxy, withL_n hxw]; exact ⟨rfl, hC, SameM.rf _⟩)
      · have hp7 : r8 = 1 := hp7.trans (by rw [hxw]; rfl)
        subst hp7
        have hokjw := hX.1.2.2.2 jw hljw
        have hk6jw := hokjw.1
        have hB9jw := hokjw.2.2.2.2.2.2.1
        have hC9jw := hokjw.2.2.2.2.2.2.2
        refine lv_if_ne (tgt := 36) hx hy dX5_choose_30 (by decide) (fun _ => ?_) (fun q => absurd q (by decide))
        refine lv_aload_n hx hy dX5_choose_36 rfl (lv_at hl 0 rfl) ?_
        refine lv_iconst (v := nI 4) hx hy dX5_choose_37 (by decide) ?_
        refine lv_iload_n hx hy dX5_choose_38 rfl (lv_at hl 1 rfl) ?_
        refine lv_iload_n hx hy dX5_choose_39 rfl (lv_at hl 2 rfl) ?_
        refine lv_iload_n hx hy dX5_choose_40 rfl (lv_at hl 3 rfl) ?_
        refine zI hI (xV F hI hl (kX5_addLine l E (u) hC hX 4 jx jy jw) M_X5_59 (rX5 F hI) rfl ⟨Nat.le_of_ble_eq_true rfl, Nat.le_of_ble_eq_true rfl⟩ ⟨Nat.zero_le _, Nat.zero_le _⟩ rfl (Nat.le_of_ble_eq_true rfl) dX5_choose_41) (fun r11 v12 H locs hI hp10 => ?_)
        exact rI hQ F (v := (v12.1, v12.2)) hI dX5_choose_44 (by rw [a_choose, withL_s hxx, withL_s hxy, withL_s hxw]; exact hp10)
set_option maxHeartbeats 400000 in
set_option maxRecDepth 100000 in
theorem kX5_turn (l : Launch) (E : EV) (u : SS) {X : XS} (hC : RepC u.1 X) (hX : XOk X) (x : Int32) : CT l yX5_turn cX5_turn 2 (some .int) (Rm 7 158) [.ref (eA E 0), .int (x)] E u (Q_i E (fun r v => r = (a_turn X x).1 ∧ RepC v.1 (a_turn X x).2 ∧ SameM u.1 v.1) (fun (v : SS) => v)) := by
  refine mstart RX5 (by decide +kernel) rfl (Nat.le_of_ble_eq_true rfl) ?_
  intro p e s m args below meth co ls Q hQ F hI hl
  have hx := F.1
  have hy := F.2.1
  have hl : lv_has ls 2 [(0, .ref (eA E 0)), (1, .int (x))] := hl
  have hC2 := hC
  obtain ⟨hB, ⟨o, hH⟩, hS, hT⟩ := hC2
  have hn16 := hX.1.1
  have hl1 := hX.1.2.1
  have hl2 := hX.1.2.2.1
  have hh4 := hX.2.1.1
  have ht80 := hT.2.1
  refine lv_aload_n hx hy dX5_turn_0 rfl (lv_at hl 0 rfl) ?_
  refine gX5_bench F hI L_X5_10 dX5_turn_1 ?_
  refine lv_iload_n hx hy dX5_turn_4 rfl (lv_at hl 1 rfl) ?_
  refine zI hI (xV F hI hl (kX0_has l E (u) (b := 0) (n := X.1.1) (by decide) hB.2.1 (by omega) x) M_X5_63 (rX0 F hI (b := 0) (by decide)) rfl ⟨Nat.le_of_ble_eq_true rfl, Nat.le_of_ble_eq_true rfl⟩ ⟨Nat.zero_le _, Nat.zero_le _⟩ rfl (Nat.le_of_ble_eq_true rfl) dX5_turn_5) (fun r2 v3 H locs hI hp1 => ?_)
  rcases ixO_cases X.1.1 x (by omega) with hxx | ⟨jx, hljx, rfl, hxx⟩
  · have hp1 : r2 = 0 := hp1.trans (by rw [hxx]; rfl)
    subst hp1
    refine lv_if_ne (tgt := 14) hx hy dX5_turn_8 (by decide) (fun q => absurd q (by decide)) (fun _ => ?_)
    refine zc F K_X5_67 dX5_turn_11 ?_
    exact rI hQ F (v := (u.1, u.2)) hI dX5_turn_13 (by rw [a_turn, withL_n hxx]; exact ⟨rfl, hC, SameM.rf _⟩)
  · have hp1 : r2 = 1 := hp1.trans (by rw [hxx]; rfl)
    subst hp1
    have hokjx := hX.1.2.2.2 jx hljx
    have hk6jx := hokjx.1
    have hB9jx := hokjx.2.2.2.2.2.2.1
    have hC9jx := hokjx.2.2.2.2.2.2.2
    refine lv_if_ne (tgt := 14) hx hy dX5_turn_8 (by decide) (fun _ => ?_) (fun q => absurd q (by decide))
    refine lv_aload_n hx hy dX5_turn_14 rfl (lv_at hl 0 rfl) ?_
    refine lv_iconst (v := nI 5) hx hy dX5_turn_15 (by decide) ?_
    refine lv_iload_n hx hy dX5_turn_16 rfl (lv_at hl 1 rfl) ?_
    refine lv_iconst (v := nI 0) hx hy dX5_turn_17 (by decide) ?_
    refine lv_iconst (v := nI 0) hx hy dX5_turn_18 (by decide) ?_
    refine zI hI (xV F hI hl (kX5_addLine l E (u) hC hX 5 jx 0 0) M_X5_59 (rX5 F hI) rfl ⟨Nat.le_of_ble_eq_true rfl, Nat.le_of_ble_eq_true rfl⟩ ⟨Nat.zero_le _, Nat.zero_le _⟩ rfl (Nat.le_of_ble_eq_true rfl) dX5_turn_19) (fun r5 v6 H locs hI hp4 => ?_)
    exact rI hQ F (v := (v6.1, v6.2)) hI dX5_turn_22 (by rw [a_turn, withL_s hxx]; exact hp4)
set_option maxHeartbeats 400000 in
set_option maxRecDepth 100000 in
theorem kX5_delay (l : Launch) (E : EV) (u : SS) {X : XS} (hC : RepC u.1 X) (hX : XOk X) (x y : Int32) : CT l yX5_delay cX5_delay 3 (some .int) (Rm 7 158) [.ref (eA E 0), .int (x), .int (y)] E u (Q_i E (fun r v => r = (a_delay X x y).1 ∧ RepC v.1 (a_delay X x y).2 ∧ SameM u.1 v.1) (fun (v : SS) => v)) := by
  refine mstart RX5 (by decide +kernel) rfl (Nat.le_of_ble_eq_true rfl) ?_
  intro p e s m args below meth co ls Q hQ F hI hl
  have hx := F.1
  have hy := F.2.1
  have hl : lv_has ls 3 [(0, .ref (eA E 0)), (1, .int (x)), (2, .int (y))] := hl
  have hC2 := hC
  obtain ⟨hB, ⟨o, hH⟩, hS, hT⟩ := hC2
  have hn16 := hX.1.1
  have hl1 := hX.1.2.1
  have hl2 := hX.1.2.2.1
  have hh4 := hX.2.1.1
  have ht80 := hT.2.1
  refine lv_aload_n hx hy dX5_delay_0 rfl (lv_at hl 0 rfl) ?_
  refine gX5_bench F hI L_X5_10 dX5_delay_1 ?_
  refine lv_iload_n hx hy dX5_delay_4 rfl (lv_at hl 1 rfl) ?_
  refine zI hI (xV F hI hl (kX0_has l E (u) (b := 0) (n := X.1.1) (by decide) hB.2.1 (by omega) x) M_X5_63 (rX0 F hI (b := 0) (by decide)) rfl ⟨Nat.le_of_ble_eq_true rfl, Nat.le_of_ble_eq_true rfl⟩ ⟨Nat.zero_le _, Nat.zero_le _⟩ rfl (Nat.le_of_ble_eq_true rfl) dX5_delay_5) (fun r2 v3 H locs hI hp1 => ?_)
  rcases ixO_cases X.1.1 x (by omega) with hxx | ⟨jx, hljx, rfl, hxx⟩
  · have hp1 : r2 = 0 := hp1.trans (by rw [hxx]; rfl)
    subst hp1
    refine lv_if_ne (tgt := 14) hx hy dX5_delay_8 (by decide) (fun q => absurd q (by decide)) (fun _ => ?_)
    refine zc F K_X5_67 dX5_delay_11 ?_
    exact rI hQ F (v := (u.1, u.2)) hI dX5_delay_13 (by rw [a_delay, withL_n hxx]; exact ⟨rfl, hC, SameM.rf _⟩)
  · have hp1 : r2 = 1 := hp1.trans (by rw [hxx]; rfl)
    subst hp1
    have hokjx := hX.1.2.2.2 jx hljx
    have hk6jx := hokjx.1
    have hB9jx := hokjx.2.2.2.2.2.2.1
    have hC9jx := hokjx.2.2.2.2.2.2.2
    refine lv_if_ne (tgt := 14) hx hy dX5_delay_8 (by decide) (fun _ => ?_) (fun q => absurd q (by decide))
    refine lv_iload_n hx hy dX5_delay_14 rfl (lv_at hl 2 rfl) ?_
    refine lv_iconst (v := nI 1) hx hy dX5_delay_15 (by decide) ?_
    refine lv_bipush (v := nI 60) hx hy dX5_delay_16 (by decide) ?_
    refine zI hI (xS F hI hl (kX5_isWithin l E (u) 1 60 y) M_X5_68 rfl ⟨Nat.le_of_ble_eq_true rfl, Nat.le_of_ble_eq_true rfl⟩ ⟨Nat.zero_le _, Nat.zero_le _⟩ rfl (Nat.le_of_ble_eq_true rfl) dX5_delay_18) (fun r5 v6 H locs hI hp4 => ?_)
    rcases rgO_cases 1 60 y (by decide) (by decide) with hxy | ⟨jy, hmjy, hljy, rfl, hxy⟩
    · have hp4 : r5 = 0 := hp4.trans (by rw [hxy]; rfl)
      subst hp4
      refine lv_if_ne (tgt := 27) hx hy dX5_delay_21 (by decide) (fun q => absurd q (by decide)) (fun _ => ?_)
      refine zc F K_X5_58 dX5_delay_24 ?_
      exact rI hQ F (v := (u.1, u.2)) hI dX5_delay_26 (by rw [a_delay, withL_s hxx, withR_n hxy]; exact ⟨rfl, hC, SameM.rf _⟩)
    · have hp4 : r5 = 1 := hp4.trans (by rw [hxy]; rfl)
      subst hp4
      refine lv_if_ne (tgt := 27) hx hy dX5_delay_21 (by decide) (fun _ => ?_) (fun q => absurd q (by decide))
      refine lv_aload_n hx hy dX5_delay_27 rfl (lv_at hl 0 rfl) ?_
      refine lv_bipush (v := nI 6) hx hy dX5_delay_28 (by decide) ?_
      refine lv_iload_n hx hy dX5_delay_30 rfl (lv_at hl 1 rfl) ?_
      refine lv_iload_n hx hy dX5_delay_31 rfl (lv_at hl 2 rfl) ?_
      refine lv_iconst (v := nI 0) hx hy dX5_delay_32 (by decide) ?_
      refine zI hI (xV F hI hl (kX5_addLine l E (u) hC hX 6 jx jy 0) M_X5_59 (rX5 F hI) rfl ⟨Nat.le_of_ble_eq_true rfl, Nat.le_of_ble_eq_true rfl⟩ ⟨Nat.zero_le _, Nat.zero_le _⟩ rfl (Nat.le_of_ble_eq_true rfl) dX5_delay_33) (fun r8 v9 H locs hI hp7 => ?_)
      exact rI hQ F (v := (v9.1, v9.2)) hI dX5_delay_36 (by rw [a_delay, withL_s hxx, withR_s hxy]; exact hp7)
