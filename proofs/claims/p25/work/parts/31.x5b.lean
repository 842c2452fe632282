set_option maxHeartbeats 400000 in
set_option maxRecDepth 100000 in
theorem kX5_reseed (l : Launch) (E : EV) (u : SS) {X : XS} (hC : RepC u.1 X) (hX : XOk X) (x y w : Int32) : CT l yX5_reseed cX5_reseed 5 (some .int) (Rm 6 134) [.ref (eA E 0), .int (x), .int (y), .int (w)] E u (Q_i E (fun r v => r = (a_reseed X x y w).1 ∧ RepC v.1 (a_reseed X x y w).2 ∧ SameM u.1 v.1) (fun (v : SS) => v)) := by
  refine mstart RX5 (by decide +kernel) rfl (Nat.le_of_ble_eq_true rfl) ?_
  intro p e s m args below meth co ls Q hQ F hI hl
  have hx := F.1
  have hy := F.2.1
  have hl : lv_has ls 5 [(0, .ref (eA E 0)), (1, .int (x)), (2, .int (y)), (3, .int (w))] := hl
  have hC2 := hC
  obtain ⟨hB, ⟨o, hH⟩, hS, hT⟩ := hC2
  have hn16 := hX.1.1
  have hl1 := hX.1.2.1
  have hl2 := hX.1.2.2.1
  have hh4 := hX.2.1.1
  have ht80 := hT.2.1
  refine lv_aload_n hx hy dX5_reseed_0 rfl (lv_at hl 0 rfl) ?_
  refine gX5_bench F hI L_X5_10 dX5_reseed_1 ?_
  refine lv_iload_n hx hy dX5_reseed_4 rfl (lv_at hl 1 rfl) ?_
  refine zI hI (xV F hI hl (kX0_has l E (u) (b := 0) (n := X.1.1) (by decide) hB.2.1 (by omega) x) M_X5_63 (rX0 F hI (b := 0) (by decide)) rfl ⟨Nat.le_of_ble_eq_true rfl, Nat.le_of_ble_eq_true rfl⟩ ⟨Nat.zero_le _, Nat.zero_le _⟩ rfl (Nat.le_of_ble_eq_true rfl) dX5_reseed_5) (fun r2 v3 H locs hI hp1 => ?_)
  rcases ixO_cases X.1.1 x (by omega) with hxx | ⟨jx, hljx, rfl, hxx⟩
  · have hp1 : r2 = 0 := hp1.trans (by rw [hxx]; rfl)
    subst hp1
    refine lv_if_ne (tgt := 14) hx hy dX5_reseed_8 (by decide) (fun q => absurd q (by decide)) (fun _ => ?_)
    refine zc F K_X5_67 dX5_reseed_11 ?_
    exact rI hQ F (v := (u.1, u.2)) hI dX5_reseed_13 (by rw [a_reseed, withL_n hxx]; exact ⟨rfl, hC, SameM.rf _⟩)
  · have hp1 : r2 = 1 := hp1.trans (by rw [hxx]; rfl)
    subst hp1
    have hokjx := hX.1.2.2.2 jx hljx
    have hk6jx := hokjx.1
    have hB9jx := hokjx.2.2.2.2.2.2.1
    have hC9jx := hokjx.2.2.2.2.2.2.2
    refine lv_if_ne (tgt := 14) hx hy dX5_reseed_8 (by decide) (fun _ => ?_) (fun q => absurd q (by decide))
    refine lv_iload_n hx hy dX5_reseed_14 rfl (lv_at hl 2 rfl) ?_
    refine lv_iload_n hx hy dX5_reseed_15 rfl (lv_at hl 3 rfl) ?_
    refine zI hI (xS F hI hl (kX5_isShareAndSeed l E (u) y w) M_X5_54 rfl ⟨Nat.le_of_ble_eq_true rfl, Nat.le_of_ble_eq_true rfl⟩ ⟨Nat.zero_le _, Nat.zero_le _⟩ rfl (Nat.le_of_ble_eq_true rfl) dX5_reseed_16) (fun r5 v6 H locs hI hp4 => ?_)
    rcases rgO_cases 0 256 y (by decide) (by decide) with hxy | ⟨jy, hmjy, hljy, rfl, hxy⟩
    · have hp4 : r5 = 0 := hp4.trans (if_neg (fun q9 => by rw [hxy] at q9; cases q9.1))
      subst hp4
      refine lv_if_ne (tgt := 25) hx hy dX5_reseed_19 (by decide) (fun q => absurd q (by decide)) (fun _ => ?_)
      refine zc F K_X5_58 dX5_reseed_22 ?_
      exact rI hQ F (v := (u.1, u.2)) hI dX5_reseed_24 (by rw [a_reseed, withL_s hxx, withR_n hxy]; exact ⟨rfl, hC, SameM.rf _⟩)
    · rcases rgO_cases 1 255 w (by decide) (by decide) with hxw | ⟨jw, hmjw, hljw, rfl, hxw⟩
      · have hp4 : r5 = 0 := hp4.trans (if_neg (fun q9 => by rw [hxw] at q9; cases q9.2))
        subst hp4
        refine lv_if_ne (tgt := 25) hx hy dX5_reseed_19 (by decide) (fun q => absurd q (by decide)) (fun _ => ?_)
        refine zc F K_X5_58 dX5_reseed_22 ?_
        exact rI hQ F (v := (u.1, u.2)) hI dX5_reseed_24 (by rw [a_reseed, withL_s hxx, withR_s hxy, withR_n hxw]; exact ⟨rfl, hC, SameM.rf _⟩)
      · have hp4 : r5 = 1 := hp4.trans (if_pos (by rw [hxy, hxw]; exact ⟨rfl, rfl⟩))
        subst hp4
        refine lv_if_ne (tgt := 25) hx hy dX5_reseed_19 (by decide) (fun _ => ?_) (fun q => absurd q (by decide))
        refine lv_aload_n hx hy dX5_reseed_25 rfl (lv_at hl 0 rfl) ?_
        refine gX5_bench F hI L_X5_10 dX5_reseed_26 ?_
        refine lv_iload_n hx hy dX5_reseed_29 rfl (lv_at hl 1 rfl) ?_
        refine zI hI (xV F hI hl (kX0_kindOf l E (u) (b := 0) (by decide) (nI jx)) M_X5_72 (rX0 F hI (b := 0) (by decide)) rfl ⟨Nat.le_of_ble_eq_true rfl, Nat.le_of_ble_eq_true rfl⟩ ⟨Nat.zero_le _, Nat.zero_le _⟩ rfl (Nat.le_of_ble_eq_true rfl) dX5_reseed_30) (fun r8 v9 H locs hI hp7 => ?_)
        rw [el_lt (by omega) (by decide)] at hp7
        subst hp7
        refine tI (hB.2.2 jx hljx).1 ?_
        refine lv_if_eq (tgt := 39) hx hy dX5_reseed_33 (by decide) (fun h10 => ?_) (fun h10 => ?_)
        · have h10 : (X.1.2.2 jx).1 = 0 := (nI_eq (a := (X.1.2.2 jx).1) (b := 0) (by omega) (by omega)).mp h10
          have h256 := (hokjx.2.1 h10).1
          refine lv_aload_n hx hy dX5_reseed_39 rfl (lv_at hl 0 rfl) ?_
          refine gX5_bench F hI L_X5_10 dX5_reseed_40 ?_
          refine lv_iload_n hx hy dX5_reseed_43 rfl (lv_at hl 1 rfl) ?_
          refine lv_iconst (v := nI 1) hx hy dX5_reseed_44 (by decide) ?_
          refine zI hI (xV F hI hl (kX0_numberOf l E (u) (b := 0) (by decide) (nI jx) (nI 1)) M_X5_77 (rX0 F hI (b := 0) (by decide)) rfl ⟨Nat.le_of_ble_eq_true rfl, Nat.le_of_ble_eq_true rfl⟩ ⟨Nat.zero_le _, Nat.zero_le _⟩ rfl (Nat.le_of_ble_eq_true rfl) dX5_reseed_45) (fun r12 v13 H locs hI hp11 => ?_)
          rw [show nI jx * nI 3 + nI 1 - nI 1 = nI (3 * jx) from ix3 jx 0, el_lt (by omega) (by decide)] at hp11
          subst hp11
          refine tI (hB.2.2 jx hljx).2.1 ?_
          refine lv_istore (lv' := [(4, .int (nI ((X.1.2.2 jx).2.1))), (0, .ref (eA E 0)), (1, .int (nI jx)), (2, .int (nI jy)), (3, .int (nI jw))]) hx hy dX5_reseed_48 hl (by decide) rfl (fun ls hl => ?_)
          refine lv_iload hx hy dX5_reseed_50 (lv_at hl 0 rfl) ?_
          refine lv_iload_n hx hy dX5_reseed_52 rfl (lv_at hl 3 rfl) ?_
          refine lv_icmp_ne (tgt := 72) hx hy dX5_reseed_53 (by decide) (fun h14 => ?_) (fun h14 => ?_)
          · have h14 : (X.1.2.2 jx).2.1 ≠ jy := fun q9 => h14 ((nI_eq (a := (X.1.2.2 jx).2.1) (b := jy) (by omega) (by omega)).mpr q9)
            refine lv_aload_n hx hy dX5_reseed_72 rfl (lv_at hl 1 rfl) ?_
            refine gX5_history F hI L_X5_29 dX5_reseed_73 ?_
            refine lv_aload_n hx hy dX5_reseed_76 rfl (lv_at hl 1 rfl) ?_
            refine gX5_bench F hI L_X5_10 dX5_reseed_77 ?_
            refine zV hI (xV F hI hl (kX3_push l E (u) hH.2.1 hH.1 hH.2.2.1 hX.2.1.1 hB.2.1 hX.1.1) M_X5_82 (rX3 F hI) rfl ⟨Nat.le_of_ble_eq_true rfl, Nat.le_of_ble_eq_true rfl⟩ ⟨Nat.zero_le _, Nat.zero_le _⟩ rfl (Nat.le_of_ble_eq_true rfl) dX5_reseed_80) (fun v17 H locs hI hp15 => ?_)
            have hR1 := hp15.rep rfl hX hB hH hS hT
            have hRB1 : RepB 0 v17 X.1 := hR1.1.1
            refine lv_aload_n hx hy dX5_reseed_83 rfl (lv_at hl 1 rfl) ?_
            refine gX5_bench F hI L_X5_10 dX5_reseed_84 ?_
            refine lv_iload_n hx hy dX5_reseed_87 rfl (lv_at hl 2 rfl) ?_
            refine lv_iload_n hx hy dX5_reseed_88 rfl (lv_at hl 3 rfl) ?_
            refine lv_iload_n hx hy dX5_reseed_89 rfl (lv_at hl 4 rfl) ?_
            refine zV hI (xV F hI hl (kX0_setSource l E ((v17, u.2)) (b := 0) (by decide) jx (by omega) (nI jy) (nI jw)) M_X5_86 (rX0 F hI (b := 0) (by decide)) rfl ⟨Nat.le_of_ble_eq_true rfl, Nat.le_of_ble_eq_true rfl⟩ ⟨Nat.zero_le _, Nat.zero_le _⟩ rfl (Nat.le_of_ble_eq_true rfl) dX5_reseed_90) (fun v20 H locs hI hp18 => ?_)
            subst hp18
            obtain ⟨c21, ec21⟩ : ∃ z9 : CF, z9 = up (up v17 (30 + 0) (3 * jx) (nI jy)) (30 + 0) (3 * jx + 1) (nI jw) := ⟨_, rfl⟩
            have hI : Iv E s H locs (c21, u.2) := by rw [ec21]; exact hI
            have kf22 : c21 2 0 = nI X.1.1 := by rw [ec21, up_at, if_neg (by omega)]; exact hRB1.2.1
            have kf23 : c21 1 0 = nI X.1.2.1 := by rw [ec21, up_at, if_neg (by omega)]; exact hRB1.1
            refine lv_iload hx hy dX5_reseed_93 (lv_at hl 0 rfl) ?_
            exact rI hQ F (v := (c21, u.2)) hI dX5_reseed_95 (by rw [a_reseed, withL_s hxx, withR_s hxy, withR_s hxw, if_neg (fun q9 => q9 h10), if_neg (fun q9 => absurd q9.1 h14)]; have h9 := Onl0.rep (c' := c21) hR1.1 (by rw [ec21]; exact ((Onl0.rf _).up (by omega)).up (by omega)) (by rw [ec21]; exact hRB1.src (by decide) hljx h10); exact ⟨rfl, h9.1, hR1.2.tr h9.2⟩)
          · have h14 : (X.1.2.2 jx).2.1 = jy := (nI_eq (a := (X.1.2.2 jx).2.1) (b := jy) (by omega) (by omega)).mp h14
            refine lv_aload_n hx hy dX5_reseed_56 rfl (lv_at hl 1 rfl) ?_
            refine gX5_bench F hI L_X5_10 dX5_reseed_57 ?_
            refine lv_iload_n hx hy dX5_reseed_60 rfl (lv_at hl 2 rfl) ?_
            refine lv_iconst (v := nI 2) hx hy dX5_reseed_61 (by decide) ?_
            refine zI hI (xV F hI hl (kX0_numberOf l E (u) (b := 0) (by decide) (nI jx) (nI 2)) M_X5_77 (rX0 F hI (b := 0) (by decide)) rfl ⟨Nat.le_of_ble_eq_true rfl, Nat.le_of_ble_eq_true rfl⟩ ⟨Nat.zero_le _, Nat.zero_le _⟩ rfl (Nat.le_of_ble_eq_true rfl) dX5_reseed_62) (fun r25 v26 H locs hI hp24 => ?_)
            rw [show nI jx * nI 3 + nI 2 - nI 1 = nI (3 * jx + 1) from ix3 jx 1, el_lt (by omega) (by decide)] at hp24
            subst hp24
            refine tI (hB.2.2 jx hljx).2.2.1 ?_
            refine lv_iload_n hx hy dX5_reseed_65 rfl (lv_at hl 4 rfl) ?_
            refine lv_icmp_ne (tgt := 72) hx hy dX5_reseed_66 (by decide) (fun h27 => ?_) (fun h27 => ?_)
            · have h27 : (X.1.2.2 jx).2.2.1 ≠ jw := fun q9 => h27 ((nI_eq (a := (X.1.2.2 jx).2.2.1) (b := jw) (by omega) (by omega)).mpr q9)
              refine lv_aload_n hx hy dX5_reseed_72 rfl (lv_at hl 1 rfl) ?_
              refine gX5_history F hI L_X5_29 dX5_reseed_73 ?_
              refine lv_aload_n hx hy dX5_reseed_76 rfl (lv_at hl 1 rfl) ?_
              refine gX5_bench F hI L_X5_10 dX5_reseed_77 ?_
              refine zV hI (xV F hI hl (kX3_push l E (u) hH.2.1 hH.1 hH.2.2.1 hX.2.1.1 hB.2.1 hX.1.1) M_X5_82 (rX3 F hI) rfl ⟨Nat.le_of_ble_eq_true rfl, Nat.le_of_ble_eq_true rfl⟩ ⟨Nat.zero_le _, Nat.zero_le _⟩ rfl (Nat.le_of_ble_eq_true rfl) dX5_reseed_80) (fun v30 H locs hI hp28 => ?_)
              have hR1 := hp28.rep rfl hX hB hH hS hT
              have hRB1 : RepB 0 v30 X.1 := hR1.1.1
              refine lv_aload_n hx hy dX5_reseed_83 rfl (lv_at hl 1 rfl) ?_
              refine gX5_bench F hI L_X5_10 dX5_reseed_84 ?_
              refine lv_iload_n hx hy dX5_reseed_87 rfl (lv_at hl 2 rfl) ?_
              refine lv_iload_n hx hy dX5_reseed_88 rfl (lv_at hl 3 rfl) ?_
              refine lv_iload_n hx hy dX5_reseed_89 rfl (lv_at hl 4 rfl) ?_
              refine zV hI (xV F hI hl (kX0_setSource l E ((v30, u.2)) (b := 0) (by decide) jx (by omega) (nI jy) (nI jw)) M_X5_86 (rX0 F hI (b := 0) (by decide)) rfl ⟨Nat.le_of_ble_eq_true rfl, Nat.le_of_ble_eq_true rfl⟩ ⟨Nat.zero_le _, Nat.zero_le _⟩ rfl (Nat.le_of_ble_eq_true rfl) dX5_reseed_90) (fun v33 H locs hI hp31 => ?_)
              subst hp31
              obtain ⟨c34, ec34⟩ : ∃ z9 : CF, z9 = up (up v30 (30 + 0) (3 * jx) (nI jy)) (30 + 0) (3 * jx + 1) (nI jw) := ⟨_, rfl⟩
              have hI : Iv E s H locs (c34, u.2) := by rw [ec34]; exact hI
              have kf35 : c34 2 0 = nI X.1.1 := by rw [ec34, up_at, if_neg (by omega)]; exact hRB1.2.1
              have kf36 : c34 1 0 = nI X.1.2.1 := by rw [ec34, up_at, if_neg (by omega)]; exact hRB1.1
              refine lv_iload hx hy dX5_reseed_93 (lv_at hl 0 rfl) ?_
              exact rI hQ F (v := (c34, u.2)) hI dX5_reseed_95 (by rw [a_reseed, withL_s hxx, withR_s hxy, withR_s hxw, if_neg (fun q9 => q9 h10), if_neg (fun q9 => absurd q9.2 h27)]; have h9 := Onl0.rep (c' := c34) hR1.1 (by rw [ec34]; exact ((Onl0.rf _).up (by omega)).up (by omega)) (by rw [ec34]; exact hRB1.src (by decide) hljx h10); exact ⟨rfl, h9.1, hR1.2.tr h9.2⟩)
            · have h27 : (X.1.2.2 jx).2.2.1 = jw := (nI_eq (a := (X.1.2.2 jx).2.2.1) (b := jw) (by omega) (by omega)).mp h27
              refine zc F K_X5_81 dX5_reseed_69 ?_
              exact rI hQ F (v := (u.1, u.2)) hI dX5_reseed_71 (by rw [a_reseed, withL_s hxx, withR_s hxy, withR_s hxw, if_neg (fun q9 => q9 h10), if_pos ⟨h14, h27⟩]; exact ⟨rfl, hC, SameM.rf _⟩)
        · have h10 : (X.1.2.2 jx).1 ≠ 0 := fun q9 => h10 ((nI_eq (a := (X.1.2.2 jx).1) (b := 0) (by omega) (by omega)).mpr q9)
          refine zc F K_X5_76 dX5_reseed_36 ?_
          exact rI hQ F (v := (u.1, u.2)) hI dX5_reseed_38 (by rw [a_reseed, withL_s hxx, withR_s hxy, withR_s hxw, if_pos h10]; exact ⟨rfl, hC, SameM.rf _⟩)
set_option maxHeartbeats 400000 in
set_option maxRecDepth 100000 in
theorem kX5_removeLast (l : Launch) (E : EV) (u : SS) {X : XS} (hC : RepC u.1 X) (hX : XOk X) : CT l yX5_removeLast cX5_removeLast 1 (some .int) (Rm 6 134) [.ref (eA E 0)] E u (Q_i E (fun r v => r = (a_removeLast X).1 ∧ RepC v.1 (a_removeLast X).2 ∧ SameM u.1 v.1) (fun (v : SS) => v)) := by
  refine mstart RX5 (by decide +kernel) rfl (Nat.le_of_ble_eq_true rfl) ?_
  intro p e s m args below meth co ls Q hQ F hI hl
  have hx := F.1
  have hy := F.2.1
  have hl : lv_has ls 1 [(0, .ref (eA E 0))] := hl
  have hC2 := hC
  obtain ⟨hB, ⟨o, hH⟩, hS, hT⟩ := hC2
  have hn16 := hX.1.1
  have hl1 := hX.1.2.1
  have hl2 := hX.1.2.2.1
  have hh4 := hX.2.1.1
  have ht80 := hT.2.1
  refine lv_aload_n hx hy dX5_removeLast_0 rfl (lv_at hl 0 rfl) ?_
  refine gX5_bench F hI L_X5_10 dX5_removeLast_1 ?_
  refine gX0_size F hI (b := 0) (by decide) L_X5_90 dX5_removeLast_4 ?_
  refine tI hB.2.1 ?_
  refine lv_if_ne (tgt := 13) hx hy dX5_removeLast_7 (by decide) (fun h1 => ?_) (fun h1 => ?_)
  · have h1 : X.1.1 ≠ 0 := fun q9 => h1 ((nI_eq (a := X.1.1) (b := 0) (by omega) (by omega)).mpr q9)
    refine lv_aload_n hx hy dX5_removeLast_13 rfl (lv_at hl 0 rfl) ?_
    refine gX5_history F hI L_X5_29 dX5_removeLast_14 ?_
    refine lv_aload_n hx hy dX5_removeLast_17 rfl (lv_at hl 0 rfl) ?_
    refine gX5_bench F hI L_X5_10 dX5_removeLast_18 ?_
    refine zV hI (xV F hI hl (kX3_push l E (u) hH.2.1 hH.1 hH.2.2.1 hX.2.1.1 hB.2.1 hX.1.1) M_X5_82 (rX3 F hI) rfl ⟨Nat.le_of_ble_eq_true rfl, Nat.le_of_ble_eq_true rfl⟩ ⟨Nat.zero_le _, Nat.zero_le _⟩ rfl (Nat.le_of_ble_eq_true rfl) dX5_removeLast_21) (fun v4 H locs hI hp2 => ?_)
    have hR1 := hp2.rep rfl hX hB hH hS hT
    have hRB1 : RepB 0 v4 X.1 := hR1.1.1
    refine lv_aload_n hx hy dX5_removeLast_24 rfl (lv_at hl 0 rfl) ?_
    refine gX5_bench F hI L_X5_10 dX5_removeLast_25 ?_
    refine zV hI (xV F hI hl (kX0_dropLast l E ((v4, u.2)) (b := 0) (n := (X.1.1 - 1)) (by decide) (hRB1.2.1.trans (congrArg nI (by omega))) (by omega)) M_X5_94 (rX0 F hI (b := 0) (by decide)) rfl ⟨Nat.le_of_ble_eq_true rfl, Nat.le_of_ble_eq_true rfl⟩ ⟨Nat.zero_le _, Nat.zero_le _⟩ rfl (Nat.le_of_ble_eq_true rfl) dX5_removeLast_28) (fun v7 H locs hI hp5 => ?_)
    subst hp5
    obtain ⟨c8, ec8⟩ : ∃ z9 : CF, z9 = up v4 2 0 (nI (X.1.1 - 1)) := ⟨_, rfl⟩
    have hI : Iv E s H locs (c8, u.2) := by rw [ec8]; exact hI
    have kf9 : c8 1 0 = nI X.1.2.1 := by rw [ec8, up_at, if_neg (by omega)]; exact hRB1.1
    refine lv_aload_n hx hy dX5_removeLast_31 rfl (lv_at hl 0 rfl) ?_
    refine gX5_bench F hI L_X5_10 dX5_removeLast_32 ?_
    refine gX0_size F hI (b := 0) (by decide) L_X5_90 dX5_removeLast_35 ?_
    refine tI (show _ = c8 2 0 from rfl) ?_
    refine tI (show c8 2 0 = nI (X.1.1 - 1) by rw [ec8]; exact up_s _ _ _ _) ?_
    exact rI hQ F (v := (c8, u.2)) hI dX5_removeLast_38 (by rw [a_removeLast, if_neg h1]; have h9 := Onl0.rep (c' := c8) hR1.1 (by rw [ec8]; exact (Onl0.rf _).up (by decide)) (by rw [ec8]; exact hRB1.drop (by omega)); exact ⟨rfl, h9.1, hR1.2.tr h9.2⟩)
  · have h1 : X.1.1 = 0 := (nI_eq (a := X.1.1) (b := 0) (by omega) (by omega)).mp h1
    refine zc F K_X5_81 dX5_removeLast_10 ?_
    exact rI hQ F (v := (u.1, u.2)) hI dX5_removeLast_12 (by rw [a_removeLast, if_pos h1]; exact ⟨rfl, hC, SameM.rf _⟩)
set_option maxHeartbeats 400000 in
set_option maxRecDepth 100000 in
theorem kX5_setLength (l : Launch) (E : EV) (u : SS) {X : XS} (hC : RepC u.1 X) (hX : XOk X) (x : Int32) : CT l yX5_setLength cX5_setLength 3 (some .int) (Rm 6 134) [.ref (eA E 0), .int (x)] E u (Q_i E (fun r v => r = (a_setLength X x).1 ∧ RepC v.1 (a_setLength X x).2 ∧ SameM u.1 v.1) (fun (v : SS) => v)) := by
  refine mstart RX5 (by decide +kernel) rfl (Nat.le_of_ble_eq_true rfl) ?_
  intro p e s m args below meth co ls Q hQ F hI hl
  have hx := F.1
  have hy := F.2.1
  have hl : lv_has ls 3 [(0, .ref (eA E 0)), (1, .int (x))] := hl
  have hC2 := hC
  obtain ⟨hB, ⟨o, hH⟩, hS, hT⟩ := hC2
  have hn16 := hX.1.1
  have hl1 := hX.1.2.1
  have hl2 := hX.1.2.2.1
  have hh4 := hX.2.1.1
  have ht80 := hT.2.1
  refine lv_iload_n hx hy dX5_setLength_0 rfl (lv_at hl 1 rfl) ?_
  refine lv_iconst (v := nI 1) hx hy dX5_setLength_1 (by decide) ?_
  refine lv_sipush (v := nI 1000) hx hy dX5_setLength_2 (by decide) ?_
  refine zI hI (xS F hI hl (kX5_isWithin l E (u) 1 1000 x) M_X5_68 rfl ⟨Nat.le_of_ble_eq_true rfl, Nat.le_of_ble_eq_true rfl⟩ ⟨Nat.zero_le _, Nat.zero_le _⟩ rfl (Nat.le_of_ble_eq_true rfl) dX5_setLength_5) (fun r2 v3 H locs hI hp1 => ?_)
  rcases rgO_cases 1 1000 x (by decide) (by decide) with hxx | ⟨jx, hmjx, hljx, rfl, hxx⟩
  · have hp1 : r2 = 0 := hp1.trans (by rw [hxx]; rfl)
    subst hp1
    refine lv_if_ne (tgt := 14) hx hy dX5_setLength_8 (by decide) (fun q => absurd q (by decide)) (fun _ => ?_)
    refine zc F K_X5_58 dX5_setLength_11 ?_
    exact rI hQ F (v := (u.1, u.2)) hI dX5_setLength_13 (by rw [a_setLength, withR_n hxx]; exact ⟨rfl, hC, SameM.rf _⟩)
  · have hp1 : r2 = 1 := hp1.trans (by rw [hxx]; rfl)
    subst hp1
    refine lv_if_ne (tgt := 14) hx hy dX5_setLength_8 (by decide) (fun _ => ?_) (fun q => absurd q (by decide))
    refine lv_aload_n hx hy dX5_setLength_14 rfl (lv_at hl 0 rfl) ?_
    refine gX5_bench F hI L_X5_10 dX5_setLength_15 ?_
    refine gX0_length F hI (b := 0) (by decide) L_X5_97 dX5_setLength_18 ?_
    refine tI hB.1 ?_
    refine lv_istore_n (lv' := [(2, .int (nI (X.1.2.1))), (0, .ref (eA E 0)), (1, .int (nI jx))]) hx hy dX5_setLength_21 rfl hl (by decide) rfl (fun ls hl => ?_)
    refine lv_iload_n hx hy dX5_setLength_22 rfl (lv_at hl 0 rfl) ?_
    refine lv_iload_n hx hy dX5_setLength_23 rfl (lv_at hl 2 rfl) ?_
    refine lv_icmp_ne (tgt := 30) hx hy dX5_setLength_24 (by decide) (fun h4 => ?_) (fun h4 => ?_)
    · have h4 : X.1.2.1 ≠ jx := fun q9 => h4 ((nI_eq (a := X.1.2.1) (b := jx) (by omega) (by omega)).mpr q9)
      refine lv_aload_n hx hy dX5_setLength_30 rfl (lv_at hl 1 rfl) ?_
      refine gX5_history F hI L_X5_29 dX5_setLength_31 ?_
      refine lv_aload_n hx hy dX5_setLength_34 rfl (lv_at hl 1 rfl) ?_
      refine gX5_bench F hI L_X5_10 dX5_setLength_35 ?_
      refine zV hI (xV F hI hl (kX3_push l E (u) hH.2.1 hH.1 hH.2.2.1 hX.2.1.1 hB.2.1 hX.1.1) M_X5_82 (rX3 F hI) rfl ⟨Nat.le_of_ble_eq_true rfl, Nat.le_of_ble_eq_true rfl⟩ ⟨Nat.zero_le _, Nat.zero_le _⟩ rfl (Nat.le_of_ble_eq_true rfl) dX5_setLength_38) (fun v7 H locs hI hp5 => ?_)
      have hR1 := hp5.rep rfl hX hB hH hS hT
      have hRB1 : RepB 0 v7 X.1 := hR1.1.1
      refine lv_aload_n hx hy dX5_setLength_41 rfl (lv_at hl 1 rfl) ?_
      refine gX5_bench F hI L_X5_10 dX5_setLength_42 ?_
      refine lv_iload_n hx hy dX5_setLength_45 rfl (lv_at hl 2 rfl) ?_
      refine pX0_length F hI (b := 0) (by decide) L_X5_97 dX5_setLength_46 (fun H locs hI => ?_)
      obtain ⟨c8, ec8⟩ : ∃ z9 : CF, z9 = up v7 1 0 (nI jx) := ⟨_, rfl⟩
      have hI : Iv E s H locs (c8, u.2) := by rw [ec8]; exact hI
      have kf9 : c8 2 0 = nI X.1.1 := by rw [ec8, up_at, if_neg (by omega)]; exact hRB1.2.1
      refine lv_iload_n hx hy dX5_setLength_49 rfl (lv_at hl 0 rfl) ?_
      exact rI hQ F (v := (c8, u.2)) hI dX5_setLength_50 (by rw [a_setLength, withR_s hxx, if_neg h4]; have h9 := Onl0.rep (c' := c8) hR1.1 (by rw [ec8]; exact (Onl0.rf _).up (by decide)) (by rw [ec8]; exact hRB1.len); exact ⟨rfl, h9.1, hR1.2.tr h9.2⟩)
    · have h4 : X.1.2.1 = jx := (nI_eq (a := X.1.2.1) (b := jx) (by omega) (by omega)).mp h4
      refine zc F K_X5_81 dX5_setLength_27 ?_
      exact rI hQ F (v := (u.1, u.2)) hI dX5_setLength_29 (by rw [a_setLength, withR_s hxx, if_pos h4]; exact ⟨rfl, hC, SameM.rf _⟩)
