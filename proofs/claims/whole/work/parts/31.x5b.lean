set_option maxHeartbeats 400000 in
set_option maxRecDepth 100000 in
theorem kX5_reseed (l : Launch) (E : EV) (u : SS) {X : XS} (hC : RepC u.1 X) (hX : XOk X) (x y w : Int32) : CT l yX5_reseed cX5_reseed 5 (some .int) (Rm 6 134) [.ref (eA E 0), .int (x), .int (y), .int (w)] E u (Q_i E (fun r v => r = (a_reseed X x y w).1 ∧ RepC v.1 (a_reseed X x y w).2 ∧ SameM u.1 v.1) (fun (v : SS) => v)) := by
  refine mstart RX5 (by decide +kernel) rfl (Nat.le_of_ble_eq_true rfl) ?_
  intro p e s m args below meth co ls Q hQ F hI hl
  have hx := F.1
  have hy := F.2.1
  have hl : lv_has ls 5 [(0, .ref (eA E 0)), (1, .int (x)), (2, .int (y)), (3, .int (w))] := hl
  have hC2 := hC
  obtain ⟨hB, ⟨o, hH⟩, hS, hT⟩ := hC2
  have hn16 := hX.1.1
  have hl1 := hX.1.2.1
  have hl2 := hX.1.2.2.1
  have hh4 := hX.2.1.1
  have ht80 := hT.2.1
  refine lv_aload_n hx hy dX5_reseed_0 rfl (lv_at hl 0 rfl) ?_
  refine gX5_bench F hI L_X5_10 dX5_reseed_1 ?_
  refine lv_iload_n hx hy dX5_reseed_4 rfl (lv_at hl 1 rfl) ?_
  refine zI hI (xV F hI hl (kX0_has l E (u) (b := 0) (n := X.1.1) (by decide) hB.2.1 (by omega) x) M_X5_63 (rX0 F hI (b := 0) (by decide)) rfl ⟨Nat.le_of_ble_eq_true rfl, Nat.le_of_ble_eq_true rfl⟩ ⟨Nat.zero_le _, Nat.zero_le _⟩ rfl (Nat.le_of_ble_eq_true rfl) dX5_reseed_5) (fun r2 v3 H locs hI hp1 => ?_)
  rcases ixO_cases X.1.1 x (by omega) with hxx | ⟨jx, hljx, rfl, hxx⟩
  · have hp1 : r2 = 0 := hp1.trans (by rw [hxx]; rfl)
    subst hp1
    refine lv_if_ne (tgt := 14) hx hy dX5_reseed_8 (by decide) (fun q => absurd q (by decide)) (fun _ => ?_)
    refine zc F K_X5_67 dX5_reseed_11 ?_
    exact rI hQ F (v := (u.1, u.2)) hI dX5_reseed_13 (by rw [a_reseed, withL_n hxx]; exact ⟨rfl, hC, SameM.rf _⟩)
  · have hp1 : r2 = 1 := hp1.trans (by rw [hxx]; rfl)
    subst hp1
    have hokjx := hX.1.2.2.2 jx hljx
    have hk6jx := hokjx.1
    have hB9jx := hokjx.2.2.2.2.2.2.1
    have hC9jx := hokjx.2.2.2.2.2.2.2
    refine lv_if_ne (tgt := 14) hx hy dX5_reseed_8 (by decide) (fun _ => ?_) (fun q => absurd q (by decide))
    refine lv_iload_n hx hy dX5_reseed_14 rfl (lv_at hl 2 rfl) ?_
    refine lv_iload_n hx hy dX5_reseed_15 rfl (lv_at hl 3 rfl) ?_
    refine zI hI (xS F hI hl (kX5_isShareAndSeed l E (u) y w) M_X5_54 rfl ⟨Nat.le_of_ble_eq_true rfl, Nat.le_of_ble_eq_true rfl⟩ ⟨Nat.zero_le _, Nat.zero_le _⟩ rfl (Nat.le_of_ble_eq_true rfl) dX5_reseed_16) (fun r5 v6 H locs hI hp4 => ?_)
    rcases rgO_cases 0 256 y (by decide) (by decide) with hxy | ⟨jy, hmjy, hljy, rfl, hxy⟩
    · have hp4 : r5 = 0 := hp4.trans (if_neg (fun q9 => by rw [hxy] at q9; cases q9.1))
      subst hp4
      refine lv_if_ne (tgt := 25) hx hy dX5_reseed_19 (by decide) (fun q => absurd q (by decide)) (fun _ => ?_)
      refine zc F K_X5_58 dX5_reseed_22 ?_
      exact rI hQ F (v := (u.1, u.2)) hI dX5_reseed_24 (by rw [a_reseed, withL_s hxx, withR_n hxy]; exact ⟨rfl, hC, SameM.rf _⟩)
    · rcases rgO_cases 1 255 w (by decide) (by decide) with hxw | ⟨jw, hmjw, hljw, rfl, hxw⟩
      · have hp4 : r5 = 0 := hp4.trans (if_neg (fun q9 => by rw [hxw] at q9; cases q9.2))
        subst hp4
        refine lv_if_ne (tgt := 25) hx hy dX5_reseed_19 (by decide) (fun q => absurd q (by decide)) (fun _ => ?_)
        refine zc F K_X5_58 dX5_reseed_22 ?_
        exact rI hQ F (v := (u.1, u.2)) hI dX5_reseed_24 (by rw [a_reseed, withL_s hxx, withR_s hxy, withR_n hxw]; exact ⟨rfl, hC, SameM.rf _⟩)
      · have hp4 : r5 = 1 := hp4.trans (if_pos (by rw [hxy, hxw]; exact ⟨rfl, rfl⟩))
        subst hp4
        refine lv_if_ne (tgt := 25) hx hy dX5_reseed_19 (by decide) (fun _ => ?_) (fun q => absurd q (by decide))
        refine lv_aload_n hx hy dX5_reseed_25 rfl (lv_at hl 0 rfl) ?_
        refine gX5_bench F hI L_X5_10 dX5_reseed_26 ?_
        refine lv_iload_n hx hy dX5_reseed_29 rfl (lv_at hl 1 rfl) ?_
        refine zI hI (xV F hI hl (kX0_kindOf l E (u) (b := 0) (by decide) (nI jx)) M_X5_72 (rX0 F hI (b := 0) (by decide)) rfl ⟨Nat.le_of_ble_eq_true rfl, Nat.le_of_ble_eq_true rfl⟩ ⟨Nat.zero_le _, Nat.zero_le _⟩ rfl (Nat.le_of_ble_eq_true rfl) dX5_reseed_30) (fun r8 v9 H locs hI hp7 => ?_)
        rw [el_lt (by omega) (by decide)] at hp7
        subst hp7
        refine tI (hB.2.2 jx hljx).1 ?_
        refine lv_if_eq (tgt := 39) hx hy dX5_reseed_33 (by decide) (fun h10 => ?_) (fun h10 => ?_)
        · have h10 : (X.1.2.2 jx).1 = 0 := (nI_eq (a := (X.1.2.2 jx).1) (b := 0) (by omega) (by omega)).mp h10
          have h256 := (hokjx.2.1 h10).1
          refine lv_aload_n hx hy dX5_reseed_39 rfl (lv_at hl 0 rfl) ?_
          refine gX5_bench F hI L_X5_10 dX5_reseed_40 ?_
          refine lv_iload_n hx hy dX5_reseed_43 rfl (lv_at hl 1 rfl) ?_
          refine lv_iconst (v := nI 1) hx hy dX5_reseed_44 (by decide) ?_
          refine zI hI (xV F hI hl (kX0_numberOf l E (u) (b := 0) (by decide) (nI jx) (nI 1)) M_X5_77 (rX0 F hI (b := 0) (by decide)) rfl ⟨Nat.le_of_ble_eq_true rfl, Nat.le_of_ble_eq_true rfl⟩ ⟨Nat.zero_le _, Nat.zero_le _⟩ rfl (Nat.le_of_ble_eq_true rfl) dX5_reseed_45) (fun r12 v13 H locs hI hp11 => ?_)
          rw [show nI jx * nI 3 + nI 1 - nI 1 = nI (3 * jx) from ix3 jx 0, el_lt (by omega) (by decide)] at hp11
          subst hp11
          refine tI (hB.2.2 jx hljx).2.1 ?_
          refine lv_istore (lv' := [(4, .int (nI ((X.1.2.2 jx).2.1))), (0, .ref (eA E 0)), (1, .int (nI jx)), (2, .int (nI jy)), (3, .int (nI jw))]) hx hy dX5_reseed_48 hl (by decide) rfl (fun ls hl => ?_)
          refine lv_iload hx hy dX5_reseed_50 (lv_at hl 0 rfl) ?_
          refine lv_iload_n hx hy dX5_reseed_52 rfl (lv_at hl 3 rfl) ?_
          refine lv_icmp_ne (tgt := 72) hx hy dX5_reseed_53 (by decide) (fun h14 => ?_) (fun h14 => ?_)
          · have h14 : (X.1.2.2 jx).2.1 ≠ jy := fun q9 => h14 ((nI_eq (a := (X.1.2.2 jx).2.1) (b := jy) (by omega) (by omega)).mpr q9)
            refine lv_aload_n hx hy dX5_reseed_72 rfl (lv_at hl 1 rfl) ?_
            refine gX5_history F hI L_X5_29 dX5_reseed_73 ?_
            refine lv_aload_n hx hy dX5_reseed_76 rfl (lv_at hl 1 rfl) ?_
            refine gX5_bench F hI L_X5_10 dX5_reseed_77 ?_
            refine zV hI (xV F hI hl (kX3_push l E (u) hH.2.1 hH.1 hH.2.2.1 hX.2.1.1 hB.2.1 hX.1.1) M_X5_82 (rX3 F hI) rfl ⟨Nat.le_of_ble_eq_true rfl, Nat.le_of_ble_eq_true rfl⟩ ⟨Nat.zero_le _, Nat.zero_le _⟩ rfl (Nat.le_of_ble_eq_true rfl) dX5_reseed_80) (fun v17 H locs hI hp15 => ?_)
            have hR1 := hp15.rep rfl hX hB hH hS hT
            have hRB1 : RepB 0 v17 X.1 := hR1.1.1
            refine lv_aload_n hx hy dX5_reseed_83 rfl (lv_at hl 1 rfl) ?_
            refine gX5_bench F hI L_X5_10 dX5_reseed_84 ?_
            refine lv_iload_n hx hy dX5_reseed_87 rfl (lv_at hl 2 rfl) ?_
            refine lv_iload_n hx hy dX5_reseed_88 rfl (lv_at hl 3 rfl) ?_
            refine lv_iload_n hx hy dX5_reseed_89 rfl (lv_at hl 4 rfl) ?_
            refine zV hI (xV F hI hl (kX0_setSource l E ((v17, u.2)) (b := 0) (by decide) jx (by omega) (nI jy) (nI jw)) M_X5_86 (rX0 F hI (b := 0) (by decide)) rfl ⟨Nat.le_of_ble_eq_true rfl, Nat.le_of_ble_eq_true rfl⟩ ⟨Nat.zero_le _, Nat.zero_le _⟩ rfl (Nat.le_of_ble_eq_true rfl) dX5_reseed_90) (fun v20 H locs hI hp18 => ?_)
            subst hp18
            obtain ⟨c21, ec21⟩ : ∃ z9 : CF, z9 = up (up v17 (30 + 0) (3 * jx) (nI jy)) (30 + 0) (3 * jx + 1) (nI jw) := ⟨_, rfl⟩
            have hI : Iv E s H locs (c21, u.2) := by rw [ec21]; exact hI
            have kf22 : c21 2 0 = nI X.1.1 := by rw [ec21, up_at, if_neg (by omega)]; exact hRB1.2.1
            have kf23 : c21 1 0 = nI X.1.2.1 := by rw [ec21, up_at, if_neg (by omega)]; exact hRB1.1
            refine lv_iload hx hy dX5_reseed_93 (lv_at hl 0 rfl) ?_
            exact rI hQ F (v := (c21, u.2)) hI dX5_reseed_95 (by rw [a_reseed, withL_s hxx, withR_s hxy, withR_s hxw, if_neg (fun q9 => q9 h10), if_neg (fun q9 => absurd q9.1 h14)]; have h9 := Onl0.rep (c' := c21) hR1.1 (by rw [ec21]; exact ((Onl0.rf _).up (by omega)).up (by omega)) (by rw [ec21]; exact hRB1.src (by decide) hljx h10); exact ⟨rfl, h9.1, hR1.2.tr h9.2⟩)
          · have h14 : (X.1.2.2 jx).2.1 = jy := (nI_eq (a := (X.1.2.2 jx).2.1) (b := jy) (by omega) (by omega)).mp h14
            refine lv_aload_n hx hy dX5_reseed_56 rfl (lv_at hl 1 rfl) ?_
            refine gX5_bench F hI L_X5_10 dX5_reseed_57 ?_
            refine lv_iload_n hx hy dX5_reseed_60 rfl (lv_at hl 2 rfl) ?_
            refine lv_iconst (v := nI 2) hx hy dX5_reseed_61 (by decide) ?_
            refine zI hI (xV F hI hl (kX0_numberOf l E (u) (b := 0) (by decide) (nI jx) (nI 2)) M_X5_77 (rX0 F hI (b := 0) (by decide)) rfl ⟨Nat.le_of_ble_eq_true rfl, Nat.le_of_ble_eq_true rfl⟩ ⟨Nat.zero_le _, Nat.zero_le _⟩ rfl (Nat.le_of_ble_eq_true rfl) dX5_reseed_62) (fun r25 v26 H locs hI hp24 => ?_)
            rw [show nI jx * nI 3 + nI 2 - nI 1 = nI (3 * jx + 1) from ix3 jx 1, el_lt (by omega) (by decide)] at hp24
            subst hp24
            refine tI (hB.2.2 jx hljx).2.2.1 ?_
            refine lv_iload_n hx hy dX5_reseed_65 rfl (lv_at hl 4 rfl) ?_
            refine lv_icmp_ne (tgt := 72) hx hy dX5_reseed_66 (by decide) (fun h27 => ?_) (fun h27 => ?_)
            · have h27 : (X.1.2.2 jx).2.2.1 ≠ jw := fun q9 => h27 ((nI_eq (a := (X.1.2.2 jx).2.2.1) (b := jw) (by omega) (by omega)).mpr q9)
              refine lv_aload_n hx hy dX5_reseed_72 rfl (lv_at hl 1 rfl) ?_
              refine gX5_history F hI L_X5_29 dX5_reseed_73 ?_
              refine lv_aload_n hx hy dX5_reseed_76 rfl (lv_at hl 1 rfl) ?_
              refine gX5_bench F hI L_X5_10 dX5_reseed_77 ?_
              refine zV hI (xV F hI hl (kX3_push l E (u) hH.2.1 hH.1 hH.2.2.1 hX.2.1.1 hB.2.1 hX.1.1) M_X5_82 (rX3 F hI) rfl ⟨Nat.le_of_ble_eq_true rfl, Nat.le_of_ble_eq_true rfl⟩ ⟨Nat.zero_le _, Nat.zero_le _⟩ rfl (Nat.le_of_ble_eq_true rfl) dX5_reseed_80) (fun v30 H locs hI hp28 => ?_)
              have hR1 := hp28.rep rfl hX hB hH hS hT
              have hRB1 : RepB 0 v30 X.1 := hR1.1.1
              refine lv_aload_n hx hy dX5_reseed_83 rfl (lv_at hl 1 rfl) ?_
              refine gX5_bench F hI L_X5_10 dX5_reseed_84 ?_
              refine lv_iload_n hx hy dX5_reseed_87 rfl (lv_at hl 2 rfl) ?_
              refine lv_iload_n hx hy dX5_reseed_88 rfl (lv_at hl 3 rfl) ?_
              refine lv_iload_n hx hy dX5_reseed_89 rfl (lv_at hl 4 rfl) ?_
              refine zV hI (xV F hI hl (kX0_setSource l E ((v30, u.2)) (b := 0) (by decide) jx (by omega) (nI jy) (nI jw)) M_X5_86 (rX0 F hI (b := 0) (by decide)) rfl ⟨Nat.le_of_ble_eq_true rfl, Nat.le_of_ble_eq_true rfl⟩ ⟨Nat.zero_le _, Nat.zero_le _⟩ rfl (Nat.le_of_ble_eq_true rfl) dX5_reseed_90) (fun v33 H locs hI hp31 => ?_)
              subst hp31
              obtain ⟨c34, ec34⟩ : ∃ z9 : CF, z9 = up (up v30 (30 + 0) (3 * jx) (nI jy)) (30 + 0) (3 * jx + 1) (nI jw) := ⟨_, rfl⟩
              have hI : Iv E s H locs (c34, u.2) := by rw [ec34]; exact hI
              have kf35 : c34 2 0 = nI X.1.1 := by rw [ec34, up_at, if_neg (by omega)]; exact hRB1.2.1
              have kf36 : c34 1 0 = nI X.1.2.1 := by rw [ec34, up_at, if_neg (by omega)]; exact hRB1.1
              refine lv_iload hx hy dX5_reseed_93 (lv_at hl 0 rfl) ?_
              exact rI hQ F (v := (c34, u.2)) hI dX5_reseed_95 (by rw [a_reseed, withL_s hxx, withR_s hxy, withR_s hxw, if_neg (fun q9 => q9 h10), if_neg (fun q9 => absurd q9.2 h27)]; have h9 := Onl0.rep (c' := c34) hR1.1 (by rw [ec34]; exact ((Onl0.rf _).up (by omega)).up (by omega)) (by rw [ec34]; exact hRB1.src (by decide) hljx h10); exact ⟨rfl, h9.1, hR1.2.tr h9.2⟩)
            · have h27 : (X.1.2.2 jx).2.2.1 = jw := (nI_eq (a := (X.1.2.2 jx).2.2.1) (b := jw) (by omega) (by omega)).mp h27
              refine zc F K_X5_81 dX5_reseed_69 ?_
              exact rI hQ F (v := (u.1, u.2)) hI dX5_reseed_71 (by rw [a_reseed, withL_s hxx, withR_s hxy, withR_s hxw, if_neg (fun q9 => q9 h10), if_pos ⟨h14, h27⟩]; exact ⟨rfl, hC, SameM.rf _⟩)
        · have h10 : (X.1.2.2 jx).1 ≠ 0 := fun q9 => h10 ((nI_eq (a := (X.1.2.2 jx).1) (b := 0) (by omega) (by omega)).mpr q9)
          refine zc F K_X5_76 dX5_reseed_36 ?_
          exact rI hQ F (v := (u.1, u.2)) hI dX5_reseed_38 (by rw [a_reseed, withL_s hxx, withR_s hxy, withR_s hxw, if_pos h10]; exact ⟨rfl, hC, SameM.rf _⟩)
set_option maxHeartbeats 400000 in
set_option maxRecDepth 100000 in
theorem kX5_removeLast (l : Launch) (E : EV) (u : SS) {X : XS} (hC : RepC u.1 X) (hX : XOk X) : CT l yX5_removeLast cX5_removeLast 1 (some .int) (Rm 6 134) [.ref (eA E 0)] E u (Q_i E (fun r v => r = (a_removeLast X).1 ∧ RepC v.1 (a_removeLast X).2 ∧ SameM u.1 v.1) (fun (v : SS) => v)) := by
  refine mstart RX5 (by decide +kernel) rfl (Nat.le_of_ble_eq_true rfl) ?_
  intro p e s m args below meth co ls Q hQ F hI hl
  have hx := F.1
  have hy := F.2.1
  have hl : lv_has ls 1 [(0, .ref (eA E 0))] := hl
  have hC2 := hC
  obtain ⟨hB, ⟨o, hH⟩, hS, hT⟩ := hC2
  have hn16 := hX.1.1
  have hl1 := hX.1.2.1
  have hl2 := hX.1.2.2.1
  have hh4 := hX.2.1.1
  have ht80 := hT.2.1
  refine lv_aload_n hx hy dX5_removeLast_0 rfl (lv_at hl 0 rfl) ?_
  refine gX5_bench F hI L_X5_10 dX5_removeLast_1 ?_
  refine gX0_size F hI (b := 0) (by decide) L_X5_90 dX5_removeLast_4 ?_
  refine tI hB.2.1 ?_
  refine lv_if_ne (tgt := 13) hx hy dX5_removeLast_7 (by decide) (fun h1 => ?_) (fun h1 => ?_)
  · have h1 : X.1.1 ≠ 0 := fun q9 => h1 ((nI_eq (a := X.1.1) (b := 0) (by omega) (by omega)).mpr q9)
    refine lv_aload_n hx hy dX5_removeLast_13 rfl (lv_at hl 0 rfl) ?_
    refine gX5_history F hI L_X5_29 dX5_removeLast_14 ?_
    refine lv_aload_n hx hy dX5_removeLast_17 rfl (lv_at hl 0 rfl) ?_
    refine gX5_bench F hI L_X5_10 dX5_removeLast_18 ?_
    refine zV hI (xV F hI hl (kX3_push l E (u) hH.2.1 hH.1 hH.2.2.1 hX.2.1.1 hB.2.1 hX.1.1) M_X5_82 (rX3 F hI) rfl ⟨Nat.le_of_ble_eq_true rfl, Nat.le_of_ble_eq_true rfl⟩ ⟨Nat.zero_le _, Nat.zero_le _⟩ rfl (Nat.le_of_ble_eq_true rfl) dX5_removeLast_21) (fun v4 H locs hI hp2 => ?_)
    have hR1 := hp2.rep rfl hX hB hH hS hT
    have hRB1 : RepB 0 v4 X.1 := hR1.1.1
    refine lv_aload_n hx hy dX5_removeLast_24 rfl (lv_at hl 0 rfl) ?_
    refine gX5_bench F hI L_X5_10 dX5_removeLast_25 ?_
    refine zV hI (xV F hI hl (kX0_dropLast l E ((v4, u.2)) (b := 0) (n := (X.1.1 - 1)) (by decide) (hRB1.2.1.trans (congrArg nI (by omega))) (by omega)) M_X5_94 (rX0 F hI (b := 0) (by decide)) rfl ⟨Nat.le_of_ble_eq_true rfl, Nat.le_of_ble_eq_true rfl⟩ ⟨Nat.zero_le _, Nat.zero_le _⟩ rfl (Nat.le_of_ble_eq_true rfl) dX5_removeLast_28) (fun v7 H locs hI hp5 => ?_)
    subst hp5
    obtain ⟨c8, ec8⟩ : ∃ z9 : CF, z9 = up v4 2 0 (nI (X.1.1 - 1)) := ⟨_, rfl⟩
    have hI : Iv E s H locs (c8, u.2) := by rw [ec8]; exact hI
    have kf9 : c8 1 0 = nI X.1.2.1 := by rw [ec8, up_at, if_neg (by omega)]; exact hRB1.1
    refine lv_aload_n hx hy dX5_removeLast_31 rfl (lv_at hl 0 rfl) ?_
    refine gX5_bench F hI L_X5_10 dX5_removeLast_32 ?_
    refine gX0_size F hI (b := 0) (by decide) L_X5_90 dX5_removeLast_35 ?_
    refine tI (show _ = c8 2 0 from rfl) ?_
    refine tI (show c8 2 0 = nI (X.1.1 - 1) by rw [ec8]; exact up_s _ _ _ _) ?_
    exact rI hQ F (v := (c8, u.2)) hI dX5_removeLast_38 (by rw [a_removeLast, if_neg h1]; have h9 := Onl0.rep (c' := c8) hR1.1 (by rw [ec8]; exact (Onl0.rf _).up (by decide)) (by rw [ec8]; exact hRB1.drop (by omega)); exact ⟨rfl, h9.1, hR1.2.tr h9.2⟩)
  · have h1 : X.1.1 = 0 := (nI_eq (a := X.1.1) (b := 0) (by omega) (by omega)).mp h1
    refine zc F K_X5_81 dX5_removeLast_10 ?_
    exact rI hQ F (v := (u.1, u.2)) hI dX5_removeLast_12 (by rw [a_removeLast, if_pos h1]; exact ⟨rfl, hC, SameM.rf _⟩)
set_option maxHeartbeats 400000 in
set_option maxRecDepth 100000 in
theorem kX5_setLength (l : Launch) (E : EV) (u : SS) {X : XS} (hC : RepC u.1 X) (hX : XOk X) (x : Int32) : CT l yX5_setLength cX5_setLength 3 (some .int) (Rm 6 134) [.ref (eA E 0), .int (x)] E u (Q_i E (fun r v => r = (a_setLength X x).1 ∧ RepC v.1 (a_setLength X x).2 ∧ SameM u.1 v.1) (fun (v : SS) => v)) := by
  refine mstart RX5 (by decide +kernel) rfl (Nat.le_of_ble_eq_true rfl) ?_
  intro p e s m args below meth co ls Q hQ F hI hl
  have hx := F.1
  have hy := F.2.1
  have hl : lv_has ls 3 [(0, .ref (eA E 0)), (1, .int (x))] := hl
  have hC2 := hC
  obtain ⟨hB, ⟨o, hH⟩, hS, hT⟩ := hC2
  have hn16 := hX.1.1
  have hl1 := hX.1.2.1
  have hl2 := hX.1.2.2.1
  have hh4 := hX.2.1.1
  have ht80 := hT.2.1
  refine lv_iload_n hx hy dX5_setLength_0 rfl (lv_at hl 1 rfl) ?_
  refine lv_iconst (v := nI 1) hx hy dX5_setLength_1 (by decide) ?_
  refine lv_sipush (v := nI 1000) hx hy dX5_setLength_2 (by decide) ?_
  refine zI hI (xS F hI hl (kX5_isWithin l E (u) 1 1000 x) M_X5_68 rfl ⟨Nat.le_of_ble_eq_true rfl, Nat.le_of_ble_eq_true rfl⟩ ⟨Nat.zero_le _, Nat.zero_le _⟩ rfl (Nat.le_of_ble_eq_true rfl) dX5_setLength_5) (fun r2 v3 H locs hI hp1 => ?_)
  rcases rgO_cases 1 1000 x (by decide) (by decide) with hxx | ⟨jx, hmjx, hljx, rfl, hxx⟩
  · have hp1 : r2 = 0 := hp1.trans (by rw [hxx]; rfl)
    subst hp1
    refine lv_if_ne (tgt := 14) hx hy dX5_setLength_8 (by decide) (fun q => absurd q (by decide)) (fun _ => ?_)
    refine zc F K_X5_58 dX5_setLength_11 ?_
    exact rI hQ F (v := (u.1, u.2)) hI dX5_setLength_13 (by rw [a_setLength, withR_n hxx]; exact ⟨rfl, hC, SameM.rf _⟩)
  · have hp1 : r2 = 1 := hp1.trans (by rw [hxx]; rfl)
    subst hp1
    refine lv_if_ne (tgt := 14) hx hy dX5_setLength_8 (by decide) (fun _ => ?_) (fun q => absurd q (by decide))
    refine lv_aload_n hx hy dX5_setLength_14 rfl (lv_at hl 0 rfl) ?_
    refine gX5_bench F hI L_X5_10 dX5_setLength_15 ?_
    refine gX0_length F hI (b := 0) (by decide) L_X5_97 dX5_setLength_18 ?_
    refine tI hB.1 ?_
    refine lv_istore_n (lv' := [(2, .int (nI (X.1.2.1))), (0, .ref (eA E 0)), (1, .int (nI jx))]) hx hy dX5_setLength_21 rfl hl (by decide) rfl (fun ls hl => ?_)
    refine lv_iload_n hx hy dX5_setLength_22 rfl (lv_at hl 0 rfl) ?_
    refine lv_iload_n hx hy dX5_setLength_23 rfl (lv_at hl 2 rfl) ?_
    refine lv_icmp_ne (tgt := 30) hx hy dX5_setLength_24 (by decide) (fun h4 => ?_) (fun h4 => ?_)
    · have h4 : X.1.2.1 ≠ jx := fun q9 => h4 ((nI_eq (a := X.1.2.1) (b := jx) (by omega) (by omega)).mpr q9)
      refine lv_aload_n hx hy dX5_setLength_30 rfl (lv_at hl 1 rfl) ?_
      refine gX5_history F hI L_X5_29 dX5_setLength_31 ?_
      refine lv_aload_n hx hy dX5_setLength_34 rfl (lv_at hl 1 rfl) ?_
      refine gX5_bench F hI L_X5_10 dX5_setLength_35 ?_
      refine zV hI (xV F hI hl (kX3_push l E (u) hH.2.1 hH.1 hH.2.2.1 hX.2.1.1 hB.2.1 hX.1.1) M_X5_82 (rX3 F hI) rfl ⟨Nat.le_of_ble_eq_true rfl, Nat.le_of_ble_eq_true rfl⟩ ⟨Nat.zero_le _, Nat.zero_le _⟩ rfl (Nat.le_of_ble_eq_true rfl) dX5_setLength_38) (fun v7 H locs hI hp5 => ?_)
      have hR1 := hp5.rep rfl hX hB hH hS hT
      have hRB1 : RepB 0 v7 X.1 := hR1.1.1
      refine lv_aload_n hx hy dX5_setLength_41 rfl (lv_at hl 1 rfl) ?_
      refine gX5_bench F hI L_X5_10 dX5_setLength_42 ?_
      refine lv_iload_n hx hy dX5_setLength_45 rfl (lv_at hl 2 rfl) ?_
      refine pX0_length F hI (b := 0) (by decide) L_X5_97 dX5_setLength_46 (fun H locs hI => ?_)
      obtain ⟨c8, ec8⟩ : ∃ z9 : CF, z9 = up v7 1 0 (nI jx) := ⟨_, rfl⟩
      have hI : Iv E s H locs (c8, u.2) := by rw [ec8]; exact hI
      have kf9 : c8 2 0 = nI X.1.1 := by rw [ec8, up_at, if_neg (by omega)]; exact hRB1.2.1
      refine lv_iload_n hx hy dX5_setLength_49 rfl (lv_at hl 0 rfl) ?_
      exact rI hQ F (v := (c8, u.2)) hI dX5_setLength_50 (by rw [a_setLength, withR_s hxx, if_neg h4]; have h9 := Onl0.rep (c' := c8) hR1.1 (by rw [ec8]; exact (Onl0.rf _).up (by decide)) (by rw [ec8]; exact hRB1.len); exact ⟨rfl, h9.1, hR1.2.tr h9.2⟩)
    · have h4 : X.1.2.1 = jx := (nI_eq (a := X.1.2.1) (b := jx) (by omega) (by omega)).mp h4
      refine zc F K_X5_81 dX5_setLength_27 ?_
      exact rI hQ F (v := (u.1, u.2)) hI dX5_setLength_29 (by rw [a_setLength, withR_s hxx, if_pos h4]; exact ⟨rfl, hC, SameM.rf _⟩)
set_option maxHeartbeats 400000 in
set_option maxRecDepth 100000 in
theorem kX5_type (l : Launch) (E : EV) (u : SS) {X : XS} (hC : RepC u.1 X) (hX : XOk X) (ch : Nat) (hc : ch < 65536) : CT l yX5_type cX5_type 2 (some .int) (Rm 1 21) [.ref (eA E 0), .int (nI ch)] E u (Q_i E (fun r v => r = (a_type X ch).1 ∧ RepC v.1 (a_type X ch).2 ∧ SameM u.1 v.1) (fun (v : SS) => v)) := by
  refine mstart RX5 (by decide +kernel) rfl (Nat.le_of_ble_eq_true rfl) ?_
  intro p e s m args below meth co ls Q hQ F hI hl
  have hx := F.1
  have hy := F.2.1
  have hl : lv_has ls 2 [(0, .ref (eA E 0)), (1, .int (nI ch))] := hl
  have hC2 := hC
  obtain ⟨hB, ⟨o, hH⟩, hS, hT⟩ := hC2
  have hn16 := hX.1.1
  have hl1 := hX.1.2.1
  have hl2 := hX.1.2.2.1
  have hh4 := hX.2.1.1
  have ht80 := hT.2.1
  refine lv_aload_n hx hy dX5_type_0 rfl (lv_at hl 0 rfl) ?_
  refine gX5_text F hI L_X5_36 dX5_type_1 ?_
  refine gX1_size F hI L_X5_113 dX5_type_4 ?_
  refine tI hT.1 ?_
  refine lv_bipush (v := nI 80) hx hy dX5_type_7 (by decide) ?_
  refine lv_icmp_lt (tgt := 15) hx hy dX5_type_9 (by decide) (fun h1 => ?_) (fun h1 => ?_)
  · have h1 : X.2.2.2.1 < 80 := (nI_ltI (a := X.2.2.2.1) (b := 80) (by omega) (by omega)).mp h1
    refine lv_aload_n hx hy dX5_type_15 rfl (lv_at hl 0 rfl) ?_
    refine gX5_text F hI L_X5_36 dX5_type_16 ?_
    refine lv_iload_n hx hy dX5_type_19 rfl (lv_at hl 1 rfl) ?_
    refine zV hI (xV F hI hl (kX1_append l E (u) hT.1 (by omega) ch hc) M_X5_114 (rX1 F hI) rfl ⟨Nat.le_of_ble_eq_true rfl, Nat.le_of_ble_eq_true rfl⟩ ⟨Nat.zero_le _, Nat.zero_le _⟩ rfl (Nat.le_of_ble_eq_true rfl) dX5_type_20) (fun v4 H locs hI hp2 => ?_)
    refine lv_aload_n hx hy dX5_type_23 rfl (lv_at hl 0 rfl) ?_
    refine gX5_text F hI L_X5_36 dX5_type_24 ?_
    refine gX1_size F hI L_X5_113 dX5_type_27 ?_
    refine tI (show _ = v4 0 3 from rfl) ?_
    refine tI (show v4 0 3 = nI (X.2.2.2.1 + 1) by rw [hp2]; exact up_s _ _ _ _) ?_
    exact rI hQ F (v := (v4, u.2)) hI dX5_type_30 (by rw [a_type, if_neg (by omega)]; have h9 := text_rep (c := v4) hC (fun q9 i9 a9 b9 => by rw [hp2, up_at, if_neg (by omega), up_at, if_neg (by omega)]) (by rw [hp2]; exact type_tx hT (by omega) hc); exact ⟨rfl, h9⟩)
  · have h1 : 80 ≤ X.2.2.2.1 := Nat.le_of_not_lt (fun q9 => h1 ((nI_ltI (a := X.2.2.2.1) (b := 80) (by omega) (by omega)).mpr q9))
    refine zc F K_X5_109 dX5_type_12 ?_
    exact rI hQ F (v := (u.1, u.2)) hI dX5_type_14 (by rw [a_type, if_pos (by omega)]; exact ⟨rfl, hC, SameM.rf _⟩)
set_option maxHeartbeats 400000 in
set_option maxRecDepth 100000 in
theorem kX5_clearText (l : Launch) (E : EV) (u : SS) {X : XS} (hC : RepC u.1 X) (hX : XOk X) : CT l yX5_clearText cX5_clearText 2 (some .int) (Rm 0 0) [.ref (eA E 0)] E u (Q_i E (fun r v => r = (a_clear X).1 ∧ RepC v.1 (a_clear X).2 ∧ SameM u.1 v.1) (fun (v : SS) => v)) := by
  refine mstart RX5 (by decide +kernel) rfl (Nat.le_of_ble_eq_true rfl) ?_
  intro p e s m args below meth co ls Q hQ F hI hl
  have hx := F.1
  have hy := F.2.1
  have hl : lv_has ls 2 [(0, .ref (eA E 0))] := hl
  have hC2 := hC
  obtain ⟨hB, ⟨o, hH⟩, hS, hT⟩ := hC2
  have hn16 := hX.1.1
  have hl1 := hX.1.2.1
  have hl2 := hX.1.2.2.1
  have hh4 := hX.2.1.1
  have ht80 := hT.2.1
  refine lv_aload_n hx hy dX5_clearText_0 rfl (lv_at hl 0 rfl) ?_
  refine gX5_text F hI L_X5_36 dX5_clearText_1 ?_
  refine gX1_size F hI L_X5_113 dX5_clearText_4 ?_
  refine tI hT.1 ?_
  refine lv_istore_n (lv' := [(1, .int (nI (X.2.2.2.1))), (0, .ref (eA E 0))]) hx hy dX5_clearText_7 rfl hl (by decide) rfl (fun ls hl => ?_)
  refine lv_aload_n hx hy dX5_clearText_8 rfl (lv_at hl 1 rfl) ?_
  refine gX5_text F hI L_X5_36 dX5_clearText_9 ?_
  refine lv_iconst (v := nI 0) hx hy dX5_clearText_12 (by decide) ?_
  refine pX1_size F hI L_X5_113 dX5_clearText_13 (fun H locs hI => ?_)
  obtain ⟨c1, ec1⟩ : ∃ z9 : CF, z9 = up u.1 0 3 (nI 0) := ⟨_, rfl⟩
  have hI : Iv E s H locs (c1, u.2) := by rw [ec1]; exact hI
  have kf2 : c1 2 0 = nI X.1.1 := by rw [ec1, up_at, if_neg (by omega)]; exact hB.2.1
  have kf3 : c1 1 0 = nI X.1.2.1 := by rw [ec1, up_at, if_neg (by omega)]; exact hB.1
  refine lv_iload_n hx hy dX5_clearText_16 rfl (lv_at hl 0 rfl) ?_
  exact rI hQ F (v := (c1, u.2)) hI dX5_clearText_17 (by have h9 := text_rep (c := c1) (z := (0, X.2.2.2.2)) hC (fun q9 i9 a9 b9 => by rw [ec1, up_at, if_neg (by omega)]) ⟨by rw [ec1]; exact up_s _ _ _ _, Nat.zero_le _, fun i hi => absurd hi (Nat.not_lt_zero i)⟩; exact ⟨rfl, h9⟩)
set_option maxHeartbeats 400000 in
set_option maxRecDepth 100000 in
theorem kX5_undo (l : Launch) (E : EV) (u : SS) {X : XS} (hC : RepC u.1 X) (hX : XOk X) : CT l yX5_undo cX5_undo 1 (some .int) (Rm 6 134) [.ref (eA E 0)] E u (Q_i E (fun r v => r = (a_undo X).1 ∧ RepC v.1 (a_undo X).2 ∧ SameM u.1 v.1) (fun (v : SS) => v)) := by
  refine mstart RX5 (by decide +kernel) rfl (Nat.le_of_ble_eq_true rfl) ?_
  intro p e s m args below meth co ls Q hQ F hI hl
  have hx := F.1
  have hy := F.2.1
  have hl : lv_has ls 1 [(0, .ref (eA E 0))] := hl
  have hC2 := hC
  obtain ⟨hB, ⟨o, hH⟩, hS, hT⟩ := hC2
  have hn16 := hX.1.1
  have hl1 := hX.1.2.1
  have hl2 := hX.1.2.2.1
  have hh4 := hX.2.1.1
  have ht80 := hT.2.1
  refine lv_aload_n hx hy dX5_undo_0 rfl (lv_at hl 0 rfl) ?_
  refine gX5_history F hI L_X5_29 dX5_undo_1 ?_
  refine gX3_size F hI L_X5_118 dX5_undo_4 ?_
  refine tI hH.2.2.1 ?_
  refine lv_if_ne (tgt := 13) hx hy dX5_undo_7 (by decide) (fun h1 => ?_) (fun h1 => ?_)
  · have h1 : X.2.1.1 ≠ 0 := fun q9 => h1 ((nI_eq (a := X.2.1.1) (b := 0) (by omega) (by omega)).mpr q9)
    refine lv_aload_n hx hy dX5_undo_13 rfl (lv_at hl 0 rfl) ?_
    refine gX5_history F hI L_X5_29 dX5_undo_14 ?_
    refine lv_aload_n hx hy dX5_undo_17 rfl (lv_at hl 0 rfl) ?_
    refine gX5_bench F hI L_X5_10 dX5_undo_18 ?_
    refine zV hI (xV F hI hl (kX3_popInto l E (u) (z := X.2.1.1 - 1) (n := (X.2.1.2 (X.2.1.1 - 1)).1) hH.2.1 hH.1 (hH.2.2.1.trans (congrArg nI (by omega))) (by omega) (hH.2.2.2 _ (by omega)).2.1 (hX.2.1.2 _ (by omega)).1) M_X5_119 (rX3 F hI) rfl ⟨Nat.le_of_ble_eq_true rfl, Nat.le_of_ble_eq_true rfl⟩ ⟨Nat.zero_le _, Nat.zero_le _⟩ rfl (Nat.le_of_ble_eq_true rfl) dX5_undo_21) (fun v4 H locs hI hp2 => ?_)
    refine lv_aload_n hx hy dX5_undo_24 rfl (lv_at hl 0 rfl) ?_
    refine gX5_history F hI L_X5_29 dX5_undo_25 ?_
    refine gX3_size F hI L_X5_118 dX5_undo_28 ?_
    refine tI (show _ = v4 0 2 from rfl) ?_
    refine tI (show v4 0 2 = nI (X.2.1.1 - 1) by obtain ⟨c9, _, e9⟩ := hp2; rw [e9]; exact up_s _ _ _ _) ?_
    exact rI hQ F (v := (v4, u.2)) hI dX5_undo_31 (by rw [a_undo, if_neg h1]; exact ⟨rfl, hp2.rep (by omega) hX hB hH hS hT⟩)
  · have h1 : X.2.1.1 = 0 := (nI_eq (a := X.2.1.1) (b := 0) (by omega) (by omega)).mp h1
    refine zc F K_X5_81 dX5_undo_10 ?_
    exact rI hQ F (v := (u.1, u.2)) hI dX5_undo_12 (by rw [a_undo, if_pos h1]; exact ⟨rfl, hC, SameM.rf _⟩)
set_option maxHeartbeats 400000 in
set_option maxRecDepth 100000 in
theorem kX5_keep (l : Launch) (E : EV) (u : SS) {X : XS} (hC : RepC u.1 X) (hX : XOk X) : CT l yX5_keep cX5_keep 1 (some .int) (Rm 5 112) [.ref (eA E 0)] E u (Q_i E (fun r v => r = (a_keep X).1 ∧ RepC v.1 (a_keep X).2 ∧ SameM u.1 v.1) (fun (v : SS) => v)) := by
  refine mstart RX5 (by decide +kernel) rfl (Nat.le_of_ble_eq_true rfl) ?_
  intro p e s m args below meth co ls Q hQ F hI hl
  have hx := F.1
  have hy := F.2.1
  have hl : lv_has ls 1 [(0, .ref (eA E 0))] := hl
  have hC2 := hC
  obtain ⟨hB, ⟨o, hH⟩, hS, hT⟩ := hC2
  have hn16 := hX.1.1
  have hl1 := hX.1.2.1
  have hl2 := hX.1.2.2.1
  have hh4 := hX.2.1.1
  have ht80 := hT.2.1
  refine lv_aload_n hx hy dX5_keep_0 rfl (lv_at hl 0 rfl) ?_
  refine gX5_snapshot F hI L_X5_16 dX5_keep_1 ?_
  refine lv_aload_n hx hy dX5_keep_4 rfl (lv_at hl 0 rfl) ?_
  refine gX5_bench F hI L_X5_10 dX5_keep_5 ?_
  refine zV hI (xV F hI hl (kX0_copyFrom l E (u) (b := 1) (b2 := 0) (n := (X.1.1)) (by decide) (by decide) (by omega) hB.2.1 (by omega)) M_X5_122 (rX0 F hI (b := 1) (by decide)) rfl ⟨Nat.le_of_ble_eq_true rfl, Nat.le_of_ble_eq_true rfl⟩ ⟨Nat.zero_le _, Nat.zero_le _⟩ rfl (Nat.le_of_ble_eq_true rfl) dX5_keep_8) (fun v3 H locs hI hp1 => ?_)
  refine lv_aload_n hx hy dX5_keep_11 rfl (lv_at hl 0 rfl) ?_
  refine lv_iconst (v := nI 1) hx hy dX5_keep_12 (by decide) ?_
  refine pX5_hasSnapshot F hI rfl rfl L_X5_19 dX5_keep_13 (fun H locs hI => ?_)
  obtain ⟨c4, ec4⟩ : ∃ z9 : CF, z9 = up v3 0 0 (nI 1) := ⟨_, rfl⟩
  have hI : Iv E s H locs (c4, u.2) := by rw [ec4]; exact hI
  refine lv_aload_n hx hy dX5_keep_16 rfl (lv_at hl 0 rfl) ?_
  refine gX5_bench F hI L_X5_10 dX5_keep_17 ?_
  refine gX0_size F hI (b := 0) (by decide) L_X5_90 dX5_keep_20 ?_
  refine tI (show _ = c4 2 0 from rfl) ?_
  refine tI (show c4 2 0 = nI X.1.1 by rw [ec4]; exact (keep_rep hC hX hp1).1.1.2.1) ?_
  exact rI hQ F (v := (c4, u.2)) hI dX5_keep_23 (by have h9 := keep_rep hC hX hp1; rw [← ec4] at h9; exact ⟨rfl, h9⟩)
set_option maxHeartbeats 400000 in
set_option maxRecDepth 100000 in
theorem kX5_restore (l : Launch) (E : EV) (u : SS) {X : XS} (hC : RepC u.1 X) (hX : XOk X) : CT l yX5_restore cX5_restore 1 (some .int) (Rm 6 134) [.ref (eA E 0)] E u (Q_i E (fun r v => r = (a_restore X).1 ∧ RepC v.1 (a_restore X).2 ∧ SameM u.1 v.1) (fun (v : SS) => v)) := by
  refine mstart RX5 (by decide +kernel) rfl (Nat.le_of_ble_eq_true rfl) ?_
  intro p e s m args below meth co ls Q hQ F hI hl
  have hx := F.1
  have hy := F.2.1
  have hl : lv_has ls 1 [(0, .ref (eA E 0))] := hl
  have hC2 := hC
  obtain ⟨hB, ⟨o, hH⟩, hS, hT⟩ := hC2
  have hn16 := hX.1.1
  have hl1 := hX.1.2.1
  have hl2 := hX.1.2.2.1
  have hh4 := hX.2.1.1
  have ht80 := hT.2.1
  have hs1 := hX.2.2.1.1
  refine lv_aload_n hx hy dX5_restore_0 rfl (lv_at hl 0 rfl) ?_
  refine gX5_hasSnapshot F hI L_X5_19 dX5_restore_1 ?_
  refine tI hS.1 ?_
  refine lv_if_ne (tgt := 10) hx hy dX5_restore_4 (by decide) (fun h1 => ?_) (fun h1 => ?_)
  · have h1 : X.2.2.1.1 ≠ 0 := fun q9 => h1 ((nI_eq (a := X.2.2.1.1) (b := 0) (by omega) (by omega)).mpr q9)
    refine lv_aload_n hx hy dX5_restore_10 rfl (lv_at hl 0 rfl) ?_
    refine gX5_history F hI L_X5_29 dX5_restore_11 ?_
    refine lv_aload_n hx hy dX5_restore_14 rfl (lv_at hl 0 rfl) ?_
    refine gX5_bench F hI L_X5_10 dX5_restore_15 ?_
    refine zV hI (xV F hI hl (kX3_push l E (u) hH.2.1 hH.1 hH.2.2.1 hX.2.1.1 hB.2.1 hX.1.1) M_X5_82 (rX3 F hI) rfl ⟨Nat.le_of_ble_eq_true rfl, Nat.le_of_ble_eq_true rfl⟩ ⟨Nat.zero_le _, Nat.zero_le _⟩ rfl (Nat.le_of_ble_eq_true rfl) dX5_restore_18) (fun v4 H locs hI hp2 => ?_)
    have hR1 := hp2.rep rfl hX hB hH hS hT
    have hRB1 : RepB 0 v4 X.1 := hR1.1.1
    have hsk := hX.2.2.1.2 (by omega)
    have hRS : RepB 1 v4 X.2.2.1.2 := hR1.1.2.2.1.2 (show X.2.2.1.1 = 1 by omega)
    have hsn := hsk.1
    refine lv_aload_n hx hy dX5_restore_21 rfl (lv_at hl 0 rfl) ?_
    refine gX5_bench F hI L_X5_10 dX5_restore_22 ?_
    refine lv_aload_n hx hy dX5_restore_25 rfl (lv_at hl 0 rfl) ?_
    refine gX5_snapshot F hI L_X5_16 dX5_restore_26 ?_
    refine zV hI (xV F hI hl (kX0_copyFrom l E ((v4, u.2)) (b := 0) (b2 := 1) (n := (X.2.2.1.2.1)) (by decide) (by decide) (by omega) hRS.2.1 (by omega)) M_X5_122 (rX0 F hI (b := 0) (by decide)) rfl ⟨Nat.le_of_ble_eq_true rfl, Nat.le_of_ble_eq_true rfl⟩ ⟨Nat.zero_le _, Nat.zero_le _⟩ rfl (Nat.le_of_ble_eq_true rfl) dX5_restore_29) (fun v7 H locs hI hp5 => ?_)
    have hRT := hp5.rep hRS hsn
    refine lv_aload_n hx hy dX5_restore_32 rfl (lv_at hl 0 rfl) ?_
    refine gX5_bench F hI L_X5_10 dX5_restore_33 ?_
    refine gX0_size F hI (b := 0) (by decide) L_X5_90 dX5_restore_36 ?_
    refine tI (show _ = v7 2 0 from rfl) ?_
    refine tI hRT.2.1 ?_
    exact rI hQ F (v := (v7, u.2)) hI dX5_restore_39 (by rw [a_restore, if_neg h1]; have h9 := Onl0.rep (c' := v7) hR1.1 hp5.onl hRT; exact ⟨rfl, h9.1, hR1.2.tr h9.2⟩)
  · have h1 : X.2.2.1.1 = 0 := (nI_eq (a := X.2.2.1.1) (b := 0) (by omega) (by omega)).mp h1
    refine zc F K_X5_81 dX5_restore_7 ?_
    exact rI hQ F (v := (u.1, u.2)) hI dX5_restore_9 (by rw [a_restore, if_pos h1]; exact ⟨rfl, hC, SameM.rf _⟩)
set_option maxHeartbeats 400000 in
set_option maxRecDepth 100000 in
theorem kX5_isMadeOfLinesAhead (l : Launch) (E : EV) (u : SS) {mm : Nat} {g : Nat → Ln} (hR : RepL 2 u.1 mm g) (h14 : mm ≤ 14) (hg : ∀ j, j < mm → LnRd (g j)) (nn : Nat) (hn : nn ≤ 16) : CT l yX5_isMadeOfLinesAhead cX5_isMadeOfLinesAhead 5 (some .boolean) (Rm 2 43) [.ref (eA E (10 + 3 * 2)), .int (nI nn)] E u (Q_i E (fun r _ => r = if ∀ k, k < mm → ahd nn g k then 1 else 0) (fun (_ : Unit) => u)) := by
  refine mstart RX5 (by decide +kernel) rfl (Nat.le_of_ble_eq_true rfl) ?_
  intro p e s m args below meth co ls Q hQ F hI hl
  have hx := F.1
  have hy := F.2.1
  have hl : lv_has ls 5 [(0, .ref (eA E (10 + 3 * 2))), (1, .int (nI nn))] := hl
  refine lv_iconst (v := nI 0) hx hy dX5_isMadeOfLinesAhead_0 (by decide) ?_
  refine lv_istore_n (lv' := [(2, .int (nI 0)), (0, .ref (eA E (10 + 3 * 2))), (1, .int (nI nn))]) hx hy dX5_isMadeOfLinesAhead_1 rfl hl (by decide) rfl (fun ls hl => ?_)
  have lp1 : ∀ (fu : Nat) (i : Nat), (i ≤ mm) → (mm - i < fu) → (∀ k, k < i → ahd nn g k) →  ∀ (H : Heap) (locs : List Loc) (ls : Array Slot), Iv E s H locs (u) → lv_has ls 5 [(2, .int (nI i)), (0, .ref (eA E (10 + 3 * 2))), (1, .int (nI nn))] → W p l e (Rm 2 43) s m args below meth co H locs 0 0 Q (F0 m 2 ls []) := by
    intro fu
    induction fu with
    | zero => intro i hi hf hA; exact absurd hf (Nat.not_lt_zero _)
    | succ fu ih =>
      intro i hi hf hA H locs ls hI hl
      have ih_2 := ih
      refine lv_iload_n hx hy dX5_isMadeOfLinesAhead_2 rfl (lv_at hl 0 rfl) ?_
      refine lv_aload_n hx hy dX5_isMadeOfLinesAhead_3 rfl (lv_at hl 1 rfl) ?_
      refine gX0_size F hI (b := 2) (by decide) L_X5_90 dX5_isMadeOfLinesAhead_4 ?_
      refine tI hR.1 ?_
      refine lv_icmp_ge (tgt := 55) hx hy dX5_isMadeOfLinesAhead_7 (by decide) (fun h2 => ?_) (fun h2 => ?_)
      · have h2 : mm ≤ i := (nI_leI (a := mm) (b := i) (by omega) (by omega)).mp h2
        refine lv_iconst (v := nI 1) hx hy dX5_isMadeOfLinesAhead_55 (by decide) ?_
        exact rZ hQ F (v := ()) rfl hI dX5_isMadeOfLinesAhead_56 (if_pos (fun k9 hk9 => hA k9 (by omega))).symm
      · have h2 : i < mm := Nat.lt_of_not_le (fun q9 => h2 ((nI_leI (a := mm) (b := i) (by omega) (by omega)).mpr q9))
        have hi2 : i < mm := h2
        have hgi := hg i hi2
        have hg6 := hgi.1
        refine lv_aload_n hx hy dX5_isMadeOfLinesAhead_10 rfl (lv_at hl 1 rfl) ?_
        refine lv_iload_n hx hy dX5_isMadeOfLinesAhead_11 rfl (lv_at hl 0 rfl) ?_
        refine zI hI (xV F hI hl (kX0_kindOf l E (u) (b := 2) (by decide) (nI i)) M_X5_72 (rX0 F hI (b := 2) (by decide)) rfl ⟨Nat.le_of_ble_eq_true rfl, Nat.le_of_ble_eq_true rfl⟩ ⟨Nat.zero_le _, Nat.zero_le _⟩ rfl (Nat.le_of_ble_eq_true rfl) dX5_isMadeOfLinesAhead_12) (fun r4 v5 H locs hI hp3 => ?_)
        rw [el_lt (by omega) (by decide)] at hp3
        subst hp3
        refine tI (hR.2 i hi2).1 ?_
        refine zI hI (xS F hI hl (kX5_linesOfKind l E (u) ((g i).1) (by omega)) M_X5_210 rfl ⟨Nat.le_of_ble_eq_true rfl, Nat.le_of_ble_eq_true rfl⟩ ⟨Nat.zero_le _, Nat.zero_le _⟩ rfl (Nat.le_of_ble_eq_true rfl) dX5_isMadeOfLinesAhead_15) (fun r7 v8 H locs hI hp6 => ?_)
        subst hp6
        refine tI (tbl_nl _ (by omega)) ?_
        have hn3 := nlK_le (g i).1
        refine lv_istore_n (lv' := [(3, .int (nI (nlK (g i).1))), (2, .int (nI i)), (0, .ref (eA E (10 + 3 * 2))), (1, .int (nI nn))]) hx hy dX5_isMadeOfLinesAhead_18 rfl hl (by decide) rfl (fun ls hl => ?_)
        refine lv_iconst (v := nI 1) hx hy dX5_isMadeOfLinesAhead_19 (by decide) ?_
        refine lv_istore (lv' := [(4, .int (nI 1)), (3, .int (nI (nlK (g i).1))), (2, .int (nI i)), (0, .ref (eA E (10 + 3 * 2))), (1, .int (nI nn))]) hx hy dX5_isMadeOfLinesAhead_20 hl (by decide) rfl (fun ls hl => ?_)
        have lp9 : ∀ (fu : Nat) (wv : Nat), (wv ≤ nlK (g i).1) → (nlK (g i).1 + 1 - wv < fu) → (∀ w, w < wv → nthN (g i) w < nn + i) →  ∀ (H : Heap) (locs : List Loc) (ls : Array Slot), Iv E s H locs (u) → lv_has ls 5 [(4, .int (nI (wv + 1))), (3, .int (nI (nlK (g i).1))), (2, .int (nI i)), (0, .ref (eA E (10 + 3 * 2))), (1, .int (nI nn))] → W p l e (Rm 2 43) s m args below meth co H locs 0 0 Q (F0 m 22 ls []) := by
          intro fu
          induction fu with
          | zero => intro wv hw hf2 hW; exact absurd hf2 (Nat.not_lt_zero _)
          | succ fu ih =>
            intro wv hw hf2 hW H locs ls hI hl
            have ih_22 := ih
            refine lv_iload hx hy dX5_isMadeOfLinesAhead_22 (lv_at hl 0 rfl) ?_
            refine lv_iload_n hx hy dX5_isMadeOfLinesAhead_24 rfl (lv_at hl 1 rfl) ?_
            refine lv_icmp_gt (tgt := 49) hx hy dX5_isMadeOfLinesAhead_25 (by decide) (fun h10 => ?_) (fun h10 => ?_)
            · have h10 : nlK (g i).1 < wv + 1 := (nI_ltI (a := nlK (g i).1) (b := wv + 1) (by omega) (by omega)).mp h10
              refine lv_iinc (v := nI (i + 1)) (lv' := [(2, .int (nI (i + 1))), (4, .int (nI (wv + 1))), (3, .int (nI (nlK (g i).1))), (0, .ref (eA E (10 + 3 * 2))), (1, .int (nI nn))]) hx hy dX5_isMadeOfLinesAhead_49 hl (k := 2) rfl (nI_add (i) 1) (by decide) rfl (fun ls hl => ?_)
              refine lv_goto (tgt := 2) hx hy dX5_isMadeOfLinesAhead_52 (by decide) ?_
              exact ih_2 (i + 1) (by omega) (by omega) (fun k hk => by rcases Nat.lt_or_ge k i with q9 | q9; exact hA k q9; rw [show k = i from by omega]; exact (ahd_iff nn g i).mpr (fun w9 hw9 => hW w9 (by omega))) _ _ _ hI (lv_sub hl [0, 3, 4] rfl)
            · have h10 : wv + 1 ≤ nlK (g i).1 := Nat.le_of_not_lt (fun q9 => h10 ((nI_ltI (a := nlK (g i).1) (b := wv + 1) (by omega) (by omega)).mpr q9))
              refine lv_aload_n hx hy dX5_isMadeOfLinesAhead_28 rfl (lv_at hl 3 rfl) ?_
              refine lv_iload_n hx hy dX5_isMadeOfLinesAhead_29 rfl (lv_at hl 2 rfl) ?_
              refine lv_iload hx hy dX5_isMadeOfLinesAhead_30 (lv_at hl 0 rfl) ?_
              refine zI hI (xV F hI hl (kX0_numberOf l E (u) (b := 2) (by decide) (nI i) (nI (wv + 1))) M_X5_77 (rX0 F hI (b := 2) (by decide)) rfl ⟨Nat.le_of_ble_eq_true rfl, Nat.le_of_ble_eq_true rfl⟩ ⟨Nat.zero_le _, Nat.zero_le _⟩ rfl (Nat.le_of_ble_eq_true rfl) dX5_isMadeOfLinesAhead_32) (fun r12 v13 H locs hI hp11 => ?_)
              rw [show nI i * nI 3 + nI (wv + 1) - nI 1 = nI (3 * i + wv) from ix3 i wv, el_lt (by omega) (by decide)] at hp11
              subst hp11
              refine tI (hR.nth hi2 (by omega)) ?_
              refine lv_iload_n hx hy dX5_isMadeOfLinesAhead_35 rfl (lv_at hl 4 rfl) ?_
              refine lv_iload_n hx hy dX5_isMadeOfLinesAhead_36 rfl (lv_at hl 2 rfl) ?_
              refine lv_iadd hx hy dX5_isMadeOfLinesAhead_37 ?_
              refine tI (nI_add (nn) (i)) ?_
              refine lv_icmp_lt (tgt := 43) hx hy dX5_isMadeOfLinesAhead_38 (by decide) (fun h14 => ?_) (fun h14 => ?_)
              · have h14 : nthN (g i) wv < nn + i := (nI_ltI (a := nthN (g i) wv) (b := nn + i) (by have := hgi.nth wv; omega) (by omega)).mp h14
                refine lv_iinc (v := nI (wv + 1 + 1)) (lv' := [(4, .int (nI (wv + 1 + 1))), (3, .int (nI (nlK (g i).1))), (2, .int (nI i)), (0, .ref (eA E (10 + 3 * 2))), (1, .int (nI nn))]) hx hy dX5_isMadeOfLinesAhead_43 hl (k := 0) rfl (nI_add (wv + 1) 1) (by decide) rfl (fun ls hl => ?_)
                refine lv_goto (tgt := 22) hx hy dX5_isMadeOfLinesAhead_46 (by decide) ?_
                exact ih_22 (wv + 1) (by omega) (by omega) (fun w9 hw9 => by rcases Nat.lt_or_ge w9 wv with q9 | q9; exact hW w9 q9; rw [show w9 = wv from by omega]; exact h14) _ _ _ hI (lv_sub hl [0, 1, 2, 3, 4] rfl)
              · have h14 : nn + i ≤ nthN (g i) wv := Nat.le_of_not_lt (fun q9 => h14 ((nI_ltI (a := nthN (g i) wv) (b := nn + i) (by have := hgi.nth wv; omega) (by omega)).mpr q9))
                refine lv_iconst (v := nI 0) hx hy dX5_isMadeOfLinesAhead_41 (by decide) ?_
                exact rZ hQ F (v := ()) rfl hI dX5_isMadeOfLinesAhead_42 (if_neg (fun q9 => absurd ((ahd_iff nn g i).mp (q9 i hi2) wv (by omega)) (by omega))).symm
        exact lp9 5 0 (Nat.zero_le _) (by omega) (fun w hw => absurd hw (Nat.not_lt_zero w)) _ _ _ hI (lv_sub hl [0, 1, 2, 3, 4] rfl)
  exact lp1 (mm + 1) 0 (Nat.zero_le _) (by omega) (fun k hk => absurd hk (Nat.not_lt_zero k)) _ _ _ hI (lv_sub hl [0, 1, 2] rfl)
set_option maxHeartbeats 400000 in
set_option maxRecDepth 100000 in
theorem kX5_readCircuit (l : Launch) (E : EV) (u : SS) {X : XS} (hC : RepC u.1 X) (hX : XOk X) : CT l yX5_readCircuit cX5_readCircuit 2 (some .int) (Rm 8 175) [.ref (eA E 0)] E u (Q_i E (fun r v => r = (a_read X).1 ∧ RepC v.1 (a_read X).2 ∧ SameM u.1 v.1) (fun (v : SS) => v)) := by
  refine mstart RX5 (by decide +kernel) rfl (Nat.le_of_ble_eq_true rfl) ?_
  intro p e s m args below meth co ls Q hQ F hI hl
  have hx := F.1
  have hy := F.2.1
  have hl : lv_has ls 2 [(0, .ref (eA E 0))] := hl
  have hC2 := hC
  obtain ⟨hB, ⟨o, hH⟩, hS, hT⟩ := hC2
  have hn16 := hX.1.1
  have hl1 := hX.1.2.1
  have hl2 := hX.1.2.2.1
  have hh4 := hX.2.1.1
  have ht80 := hT.2.1
  refine lv_aload_n hx hy dX5_readCircuit_0 rfl (lv_at hl 0 rfl) ?_
  refine gX5_text F hI L_X5_36 dX5_readCircuit_1 ?_
  refine lv_aload_n hx hy dX5_readCircuit_4 rfl (lv_at hl 0 rfl) ?_
  refine gX5_spare F hI L_X5_23 dX5_readCircuit_5 ?_
  refine zI hI (xV F hI hl (kX1_readInto l E (u) hT) M_X5_100 (rX1 F hI) rfl ⟨Nat.le_of_ble_eq_true rfl, Nat.le_of_ble_eq_true rfl⟩ ⟨Nat.zero_le _, Nat.zero_le _⟩ rfl (Nat.le_of_ble_eq_true rfl) dX5_readCircuit_8) (fun r2 v3 H locs hI hp1 => ?_)
  obtain ⟨hO, hr1, hr2⟩ := hp1
  have hsc := hO.scr
  have hC1 := hsc.rep hC
  have hm14 := rdT_n (z := X.2.2.2) ht80
  have hrd := rdT_rd X.2.2.2
  obtain ⟨hBv, ⟨ov, hHv⟩, hSv, hTv⟩ := hC1
  rcases hrn : (rdT X.2.2.2).1 with _ | pf
  · rw [hrn] at hr1
    subst hr1
    have hRs := hr2 hrn
    refine tI (show _ = (-1 : Int32) from rfl) ?_
    refine lv_istore_n (lv' := [(1, .int ((-1))), (0, .ref (eA E 0))]) hx hy dX5_readCircuit_11 rfl hl (by decide) rfl (fun ls hl => ?_)
    refine lv_iload_n hx hy dX5_readCircuit_12 rfl (lv_at hl 0 rfl) ?_
    refine lv_iconst (v := (-1)) hx hy dX5_readCircuit_13 (by decide) ?_
    refine lv_icmp_eq (tgt := 22) hx hy dX5_readCircuit_14 (by decide) (fun _ => ?_) (fun q => absurd q (by decide))
    refine lv_aload_n hx hy dX5_readCircuit_22 rfl (lv_at hl 1 rfl) ?_
    refine gX5_spare F hI L_X5_23 dX5_readCircuit_23 ?_
    refine lv_aload_n hx hy dX5_readCircuit_26 rfl (lv_at hl 1 rfl) ?_
    refine gX5_bench F hI L_X5_10 dX5_readCircuit_27 ?_
    refine gX0_size F hI (b := 0) (by decide) L_X5_90 dX5_readCircuit_30 ?_
    refine tI (show _ = v3 2 0 from rfl) ?_
    refine tI hBv.2.1 ?_
    refine zI hI (xS F hI hl (kX5_isMadeOfLinesAhead l E ((v3, u.2)) hRs hm14 hrd X.1.1 hn16) M_X5_105 rfl ⟨Nat.le_of_ble_eq_true rfl, Nat.le_of_ble_eq_true rfl⟩ ⟨Nat.zero_le _, Nat.zero_le _⟩ rfl (Nat.le_of_ble_eq_true rfl) dX5_readCircuit_33) (fun r5 v6 H locs hI hp4 => ?_)
    by_cases hah : ∀ k, k < (rdT X.2.2.2).2.1 → ahd X.1.1 (rdT X.2.2.2).2.2 k
    · rw [if_pos hah] at hp4
      subst hp4
      refine lv_if_ne (tgt := 42) hx hy dX5_readCircuit_36 (by decide) (fun _ => ?_) (fun q => absurd q (by decide))
      refine lv_aload_n hx hy dX5_readCircuit_42 rfl (lv_at hl 1 rfl) ?_
      refine gX5_bench F hI L_X5_10 dX5_readCircuit_43 ?_
      refine gX0_size F hI (b := 0) (by decide) L_X5_90 dX5_readCircuit_46 ?_
      refine tI (show _ = v3 2 0 from rfl) ?_
      refine tI hBv.2.1 ?_
      refine lv_aload_n hx hy dX5_readCircuit_49 rfl (lv_at hl 1 rfl) ?_
      refine gX5_spare F hI L_X5_23 dX5_readCircuit_50 ?_
      refine gX0_size F hI (b := 2) (by decide) L_X5_90 dX5_readCircuit_53 ?_
      refine tI (show _ = v3 2 2 from rfl) ?_
      refine tI hRs.1 ?_
      refine lv_iadd hx hy dX5_readCircuit_56 ?_
      refine tI (nI_add (X.1.1) ((rdT X.2.2.2).2.1)) ?_
      refine lv_bipush (v := nI 16) hx hy dX5_readCircuit_57 (by decide) ?_
      refine lv_icmp_le (tgt := 65) hx hy dX5_readCircuit_59 (by decide) (fun h7 => ?_) (fun h7 => ?_)
      · have h7 : X.1.1 + (rdT X.2.2.2).2.1 ≤ 16 := (nI_leI (a := X.1.1 + (rdT X.2.2.2).2.1) (b := 16) (by omega) (by omega)).mp h7
        refine lv_aload_n hx hy dX5_readCircuit_65 rfl (lv_at hl 1 rfl) ?_
        refine gX5_history F hI L_X5_29 dX5_readCircuit_66 ?_
        refine lv_aload_n hx hy dX5_readCircuit_69 rfl (lv_at hl 1 rfl) ?_
        refine gX5_bench F hI L_X5_10 dX5_readCircuit_70 ?_
        refine zV hI (xV F hI hl (kX3_push l E ((v3, u.2)) hHv.2.1 hHv.1 hHv.2.2.1 hX.2.1.1 hBv.2.1 hX.1.1) M_X5_82 (rX3 F hI) rfl ⟨Nat.le_of_ble_eq_true rfl, Nat.le_of_ble_eq_true rfl⟩ ⟨Nat.zero_le _, Nat.zero_le _⟩ rfl (Nat.le_of_ble_eq_true rfl) dX5_readCircuit_73) (fun v10 H locs hI hp8 => ?_)
        have hR1 := hp8.rep rfl hX hBv hHv hSv hTv
        have hRB1 : RepB 0 v10 X.1 := hR1.1.1
        have hRs2 := hp8.spare hRs
        refine lv_aload_n hx hy dX5_readCircuit_76 rfl (lv_at hl 1 rfl) ?_
        refine gX5_bench F hI L_X5_10 dX5_readCircuit_77 ?_
        refine lv_aload_n hx hy dX5_readCircuit_80 rfl (lv_at hl 1 rfl) ?_
        refine gX5_spare F hI L_X5_23 dX5_readCircuit_81 ?_
        refine zV hI (xV F hI hl (kX0_addAll l E ((v10, u.2)) (b := 0) (b2 := 2) (m0 := (X.1.1)) (n := ((rdT X.2.2.2).2.1)) (by decide) (by decide) (by omega) hRB1.2.1 hRs2.1 (by omega)) M_X5_110 (rX0 F hI (b := 0) (by decide)) rfl ⟨Nat.le_of_ble_eq_true rfl, Nat.le_of_ble_eq_true rfl⟩ ⟨Nat.zero_le _, Nat.zero_le _⟩ rfl (Nat.le_of_ble_eq_true rfl) dX5_readCircuit_84) (fun v13 H locs hI hp11 => ?_)
        have hap := hRB1.app hRs2 hp11
        refine lv_aload_n hx hy dX5_readCircuit_87 rfl (lv_at hl 1 rfl) ?_
        refine gX5_bench F hI L_X5_10 dX5_readCircuit_88 ?_
        refine gX0_size F hI (b := 0) (by decide) L_X5_90 dX5_readCircuit_91 ?_
        refine tI (show _ = v13 2 0 from rfl) ?_
        refine tI hap.1.2.1 ?_
        exact rI hQ F (v := (v13, u.2)) hI dX5_readCircuit_94 (by rw [a_read, hrn]; have h9 := Onl0.rep (c' := v13) hR1.1 hap.2 hap.1; exact (show _ = (if _ then _ else if _ then _ else _ : Int32 × XS).1 ∧ RepC _ (if _ then _ else if _ then _ else _ : Int32 × XS).2 ∧ _ from by rw [if_neg (fun q9 => q9 hah), if_neg (by omega)]; exact ⟨rfl, h9.1, (hsc.m.tr hR1.2).tr h9.2⟩))
      · have h7 : 16 < X.1.1 + (rdT X.2.2.2).2.1 := Nat.lt_of_not_le (fun q9 => h7 ((nI_leI (a := X.1.1 + (rdT X.2.2.2).2.1) (b := 16) (by omega) (by omega)).mpr q9))
        refine zc F K_X5_109 dX5_readCircuit_62 ?_
        exact rI hQ F (v := (v3, u.2)) hI dX5_readCircuit_64 (by rw [a_read, hrn]; exact (show _ = (if _ then _ else if _ then _ else _ : Int32 × XS).1 ∧ RepC _ (if _ then _ else if _ then _ else _ : Int32 × XS).2 ∧ _ from by rw [if_neg (fun q9 => q9 hah), if_pos (by omega)]; exact ⟨rfl, hsc.rep hC, hsc.m⟩))
    · rw [if_neg hah] at hp4
      subst hp4
      refine lv_if_ne (tgt := 42) hx hy dX5_readCircuit_36 (by decide) (fun q => absurd q (by decide)) (fun _ => ?_)
      refine zc F K_X5_67 dX5_readCircuit_39 ?_
      exact rI hQ F (v := (v3, u.2)) hI dX5_readCircuit_41 (by rw [a_read, hrn]; exact (show _ = (if _ then _ else _ : Int32 × XS).1 ∧ RepC _ (if _ then _ else _ : Int32 × XS).2 ∧ _ from by rw [if_pos hah]; exact ⟨rfl, hsc.rep hC, hsc.m⟩))
  · rw [hrn] at hr1
    subst hr1
    refine tI (show _ = nI pf from rfl) ?_
    refine lv_istore_n (lv' := [(1, .int (nI pf)), (0, .ref (eA E 0))]) hx hy dX5_readCircuit_11 rfl hl (by decide) rfl (fun ls hl => ?_)
    refine lv_iload_n hx hy dX5_readCircuit_12 rfl (lv_at hl 0 rfl) ?_
    refine lv_iconst (v := (-1)) hx hy dX5_readCircuit_13 (by decide) ?_
    refine lv_icmp_eq (tgt := 22) hx hy dX5_readCircuit_14 (by decide) (fun q => absurd q (m1_ne (by have h9 := pf_lt hrn; omega))) (fun h14 => ?_)
    refine zc F K_X5_104 dX5_readCircuit_17 ?_
    refine lv_iload_n hx hy dX5_readCircuit_19 rfl (lv_at hl 0 rfl) ?_
    refine lv_isub hx hy dX5_readCircuit_20 ?_
    exact rI hQ F (v := (v3, u.2)) hI dX5_readCircuit_21 (by rw [a_read, hrn]; exact ⟨rfl, hsc.rep hC, hsc.m⟩)
