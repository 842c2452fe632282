set_option maxHeartbeats 400000 in
set_option maxRecDepth 100000 in
theorem kX6_errorOf (l : Launch) (E : EV) (u : SS) {z : Sg} (hA : RowM u.1 41 0 z) (hz : SgOk z) (j tk : Nat) (hj : j < z.1) (ht1 : 1 ≤ tk) (htk : tk ≤ 1000) : CT l yX6_errorOf cX6_errorOf 3 (some .int) (Rm 3 70) [.ref (eA E 48), .int (nI j), .int (nI tk)] E u (Q_i E (fun r c => r = nI (errN z.2.2 j tk) ∧ QO u.1 c) (fun (c : CF) => (c, u.2))) := by
  refine mstart RX6 (by decide +kernel) rfl (Nat.le_of_ble_eq_true rfl) ?_
  intro p e s m args below meth co ls Q hQ F hI hl
  have hx := F.1
  have hy := F.2.1
  have hl : lv_has ls 3 [(0, .ref (eA E 48)), (1, .int (nI j)), (2, .int (nI tk))] := hl
  have hn16 := hz.1
  have hl1 := hz.2.1
  have hl2 := hz.2.2.1
  have hcl := cnt_le z.2.2 j tk
  have hxl := ex_le hz.2.2.2 j hj
  refine lv_aload_n hx hy dX6_errorOf_0 rfl (lv_at hl 0 rfl) ?_
  refine lv_iload_n hx hy dX6_errorOf_1 rfl (lv_at hl 1 rfl) ?_
  refine lv_iload_n hx hy dX6_errorOf_2 rfl (lv_at hl 2 rfl) ?_
  refine zV hI (xV F hI hl (kX6_lays l E (u) hA hz j tk hj htk) M_X6_125 (rX6 F hI) rfl ⟨Nat.le_of_ble_eq_true rfl, Nat.le_of_ble_eq_true rfl⟩ ⟨Nat.zero_le _, Nat.zero_le _⟩ rfl (Nat.le_of_ble_eq_true rfl) dX6_errorOf_3) (fun v3 H locs hI hp1 => ?_)
  have hA2 : RowM v3 41 0 z := hp1.2.qo.row hA hz
  have hbt := hp1.1
  refine lv_aload_n hx hy dX6_errorOf_6 rfl (lv_at hl 0 rfl) ?_
  refine lv_iload_n hx hy dX6_errorOf_7 rfl (lv_at hl 1 rfl) ?_
  refine zV hI (xV F hI hl (kX6_findsExact l E ((v3, u.2)) hA2 hz j hj) M_X6_129 (rX6 F hI) rfl ⟨Nat.le_of_ble_eq_true rfl, Nat.le_of_ble_eq_true rfl⟩ ⟨Nat.zero_le _, Nat.zero_le _⟩ rfl (Nat.le_of_ble_eq_true rfl) dX6_errorOf_8) (fun v6 H locs hI hp4 => ?_)
  have hbt2 : BitM z.2.2 j tk v6 := (hbt j (by omega)).keep (fun i => hp4.2 45 i (by decide))
  have hqo : QO u.1 v6 := QO.tr hp1.2.qo (fun q i _ _ h => hp4.2 q i h)
  refine lv_aload_n hx hy dX6_errorOf_11 rfl (lv_at hl 0 rfl) ?_
  refine lv_iload_n hx hy dX6_errorOf_12 rfl (lv_at hl 1 rfl) ?_
  refine lv_aload_n hx hy dX6_errorOf_13 rfl (lv_at hl 0 rfl) ?_
  refine lv_iload_n hx hy dX6_errorOf_14 rfl (lv_at hl 1 rfl) ?_
  refine lv_iload_n hx hy dX6_errorOf_15 rfl (lv_at hl 2 rfl) ?_
  refine zI hI (xV F hI hl (kX6_countOf l E ((v6, u.2)) (f := z.2.2) j tk (by omega) htk hbt2) M_X6_133 (rX6 F hI) rfl ⟨Nat.le_of_ble_eq_true rfl, Nat.le_of_ble_eq_true rfl⟩ ⟨Nat.zero_le _, Nat.zero_le _⟩ rfl (Nat.le_of_ble_eq_true rfl) dX6_errorOf_16) (fun r8 v9 H locs hI hp7 => ?_)
  subst hp7
  refine lv_iload_n hx hy dX6_errorOf_19 rfl (lv_at hl 2 rfl) ?_
  refine zI hI (xV F hI hl (kX6_errorBy l E ((v6, u.2)) j (cnt z.2.2 j tk) tk (ex z.2.2 j) (by omega) (hp4.1 j (by omega)) hxl hcl ht1 htk) M_X6_136 (rX6 F hI) rfl ⟨Nat.le_of_ble_eq_true rfl, Nat.le_of_ble_eq_true rfl⟩ ⟨Nat.zero_le _, Nat.zero_le _⟩ rfl (Nat.le_of_ble_eq_true rfl) dX6_errorOf_20) (fun r11 v12 H locs hI hp10 => ?_)
  subst hp10
  exact rI hQ F (v := v6) hI dX6_errorOf_23 ⟨rfl, hqo⟩
set_option maxHeartbeats 400000 in
set_option maxRecDepth 100000 in
theorem kX6_findsDepths (l : Launch) (E : EV) (u : SS) {z : Sg} (hA : RowM u.1 41 0 z) (hz : SgOk z) : CT l yX6_findsDepths cX6_findsDepths 5 none (Rm 1 22) [.ref (eA E 48)] E u (Q_v E (fun c => DepI z.2.2 z.1 u.1 c) (fun (c : CF) => (c, u.2))) := by
  refine mstart RX6 (by decide +kernel) rfl (Nat.le_of_ble_eq_true rfl) ?_
  intro p e s m args below meth co ls Q hQ F hI hl
  have hx := F.1
  have hy := F.2.1
  have hl : lv_has ls 5 [(0, .ref (eA E 48))] := hl
  have hn16 := hz.1
  have hl1 := hz.2.1
  have hl2 := hz.2.2.1
  refine lv_iconst (v := nI 0) hx hy dX6_findsDepths_0 (by decide) ?_
  refine lv_istore_n (lv' := [(1, .int (nI 0)), (0, .ref (eA E 48))]) hx hy dX6_findsDepths_1 rfl hl (by decide) rfl (fun ls hl => ?_)
  have lp1 : ∀ (fu : Nat) (i : Nat) (c : CF), (i ≤ z.1) → (z.1 - i < fu) → (DepI z.2.2 i u.1 c) →  ∀ (H : Heap) (locs : List Loc) (ls : Array Slot), Iv E s H locs ((c, u.2)) → lv_has ls 5 [(1, .int (nI i)), (0, .ref (eA E 48))] → W p l e (Rm 1 22) s m args below meth co H locs 0 0 Q (F0 m 2 ls []) := by
    intro fu
    induction fu with
    | zero => intro i c hi hf hD; exact absurd hf (Nat.not_lt_zero _)
    | succ fu ih =>
      intro i c hi hf hD H locs ls hI hl
      have hAc : RowM c 41 0 z := hD.row hA hz
      have ih_2 := ih
      refine lv_iload_n hx hy dX6_findsDepths_2 rfl (lv_at hl 0 rfl) ?_
      refine lv_aload_n hx hy dX6_findsDepths_3 rfl (lv_at hl 1 rfl) ?_
      refine gX6_all F hI L_X6_7 dX6_findsDepths_4 ?_
      refine lv_iconst (v := nI 0) hx hy dX6_findsDepths_7 (by decide) ?_
      refine aIlN F hI iX6_all (i := 0) (by omega) (by decide) dX6_findsDepths_8 ?_
      refine tI (show _ = c 41 0 from rfl) ?_
      refine tI hAc.1 ?_
      refine lv_icmp_ge (tgt := 139) hx hy dX6_findsDepths_9 (by decide) (fun h2 => ?_) (fun h2 => ?_)
      · have h2 : z.1 ≤ i := (nI_leI (a := z.1) (b := i) (by omega) (by omega)).mp h2
        exact rV hQ F (v := c) hI dX6_findsDepths_139 (by have e9 : i = z.1 := (by omega); rw [← e9]; exact hD)
      · have h2 : i < z.1 := Nat.lt_of_not_le (fun q9 => h2 ((nI_leI (a := z.1) (b := i) (by omega) (by omega)).mpr q9))
        have hiz : i < z.1 := by omega
        have hok := hz.2.2.2 i hiz
        have hk6 := hok.1
        have hnl := nlK_le (z.2.2 i).1
        have hnp := nl_np (z.2.2 i).1 (by omega)
        have hdl := dp_le hz.2.2.2
        have hpl := pd_le (f := z.2.2) (i := i) (fun a ha => hdl a (by omega)) hok
        refine lv_aload_n hx hy dX6_findsDepths_12 rfl (lv_at hl 1 rfl) ?_
        refine lv_iload_n hx hy dX6_findsDepths_13 rfl (lv_at hl 0 rfl) ?_
        refine lv_iconst (v := nI 0) hx hy dX6_findsDepths_14 (by decide) ?_
        refine zI hI (xV F hI hl (kX6_of l E ((c, u.2)) i 0 (by omega) (by omega)) M_X6_100 (rX6 F hI) rfl ⟨Nat.le_of_ble_eq_true rfl, Nat.le_of_ble_eq_true rfl⟩ ⟨Nat.zero_le _, Nat.zero_le _⟩ rfl (Nat.le_of_ble_eq_true rfl) dX6_findsDepths_15) (fun r4 v5 H locs hI hp3 => ?_)
        subst hp3
        refine tI (show _ = c 41 (2 + 4 * i + 0) from rfl) ?_
        refine tI (RowM.k hAc hiz) ?_
        refine zI hI (xS F hI hl (kX6_linesBy l E ((c, u.2)) ((z.2.2 i).1) (by omega)) M_X6_180 rfl ⟨Nat.le_of_ble_eq_true rfl, Nat.le_of_ble_eq_true rfl⟩ ⟨Nat.zero_le _, Nat.zero_le _⟩ rfl (Nat.le_of_ble_eq_true rfl) dX6_findsDepths_18) (fun r7 v8 H locs hI hp6 => ?_)
        subst hp6
        refine lv_istore_n (lv' := [(2, .int (nI (nlK ((z.2.2 i).1)))), (1, .int (nI i)), (0, .ref (eA E 48))]) hx hy dX6_findsDepths_21 rfl hl (by decide) rfl (fun ls hl => ?_)
        refine lv_aload_n hx hy dX6_findsDepths_22 rfl (lv_at hl 2 rfl) ?_
        refine gX6_deep F hI L_X6_41 dX6_findsDepths_23 ?_
        refine lv_iload_n hx hy dX6_findsDepths_26 rfl (lv_at hl 1 rfl) ?_
        refine lv_iload_n hx hy dX6_findsDepths_27 rfl (lv_at hl 0 rfl) ?_
        refine lv_if_ne (tgt := 35) hx hy dX6_findsDepths_28 (by decide) (fun h9 => ?_) (fun h9 => ?_)
        · have h9 : nlK ((z.2.2 i).1) ≠ 0 := fun q9 => h9 ((nI_eq (a := nlK ((z.2.2 i).1)) (b := 0) (by omega) (by omega)).mpr q9)
          refine lv_iconst (v := nI 1) hx hy dX6_findsDepths_35 (by decide) ?_
          refine aIsN F hI iX6_deep (i := i) (by omega) (by decide) dX6_findsDepths_36 (fun H locs hI => ?_)
          obtain ⟨c10, ec10⟩ : ∃ z9 : CF, z9 = up c 50 i (nI 1) := ⟨_, rfl⟩
          have hI : Iv E s H locs (c10, u.2) := by rw [ec10]; exact hI
          have kf11 : c10 41 0 = nI z.1 := by rw [ec10, up_at, if_neg (by omega)]; exact hAc.1
          have kf12 : c10 41 (2 + 4 * i + 0) = nI (z.2.2 i).1 := by rw [ec10, up_at, if_neg (by omega)]; exact (RowM.k hAc hiz)
          have kf13 : c10 41 (2 + 4 * i + 1) = wM (z.2.2 i) 1 := by rw [ec10, up_at, if_neg (by omega)]; exact (RowM.w1 hAc hiz)
          have kf14 : c10 41 (2 + 4 * i + 2) = wM (z.2.2 i) 2 := by rw [ec10, up_at, if_neg (by omega)]; exact (RowM.w2 hAc hiz)
          have kf15 : c10 41 (2 + 4 * i + 3) = wM (z.2.2 i) 3 := by rw [ec10, up_at, if_neg (by omega)]; exact (RowM.w3 hAc hiz)
          refine lv_aload_n hx hy dX6_findsDepths_37 rfl (lv_at hl 2 rfl) ?_
          refine gX6_sources F hI L_X6_44 dX6_findsDepths_38 ?_
          refine lv_iload_n hx hy dX6_findsDepths_41 rfl (lv_at hl 1 rfl) ?_
          refine lv_iload_n hx hy dX6_findsDepths_42 rfl (lv_at hl 0 rfl) ?_
          refine lv_if_ne (tgt := 52) hx hy dX6_findsDepths_43 (by decide) (fun h16 => ?_) (fun h16 => ?_)
          · have h16 : nlK ((z.2.2 i).1) ≠ 0 := fun q9 => h16 ((nI_eq (a := nlK ((z.2.2 i).1)) (b := 0) (by omega) (by omega)).mpr q9)
            refine lv_iconst (v := nI 0) hx hy dX6_findsDepths_52 (by decide) ?_
            refine aIsN F hI iX6_sources (i := i) (by omega) (by decide) dX6_findsDepths_53 (fun H locs hI => ?_)
            obtain ⟨c17, ec17⟩ : ∃ z9 : CF, z9 = up c10 51 i (nI 0) := ⟨_, rfl⟩
            have hI : Iv E s H locs (c17, u.2) := by rw [ec17]; exact hI
            have kf18 : c17 41 0 = nI z.1 := by rw [ec17, up_at, if_neg (by omega)]; exact kf11
            have kf19 : c17 41 (2 + 4 * i + 0) = nI (z.2.2 i).1 := by rw [ec17, up_at, if_neg (by omega)]; exact kf12
            have kf20 : c17 41 (2 + 4 * i + 1) = wM (z.2.2 i) 1 := by rw [ec17, up_at, if_neg (by omega)]; exact kf13
            have kf21 : c17 41 (2 + 4 * i + 2) = wM (z.2.2 i) 2 := by rw [ec17, up_at, if_neg (by omega)]; exact kf14
            have kf22 : c17 41 (2 + 4 * i + 3) = wM (z.2.2 i) 3 := by rw [ec17, up_at, if_neg (by omega)]; exact kf15
            refine lv_iconst (v := nI 1) hx hy dX6_findsDepths_54 (by decide) ?_
            refine lv_istore_n (lv' := [(3, .int (nI 1)), (2, .int (nI (nlK ((z.2.2 i).1)))), (1, .int (nI i)), (0, .ref (eA E 48))]) hx hy dX6_findsDepths_55 rfl hl (by decide) rfl (fun ls hl => ?_)
            have lp23 : ∀ (fu : Nat) (wq : Nat) (c5 : CF), (wq ≤ nlK (z.2.2 i).1) → (nlK (z.2.2 i).1 - wq < fu) → (DepJ z.2.2 i wq u.1 c5) →  ∀ (H : Heap) (locs : List Loc) (ls : Array Slot), Iv E s H locs ((c5, u.2)) → lv_has ls 5 [(3, .int (nI (wq + 1))), (2, .int (nI (nlK (z.2.2 i).1))), (1, .int (nI i)), (0, .ref (eA E 48))] → W p l e (Rm 1 22) s m args below meth co H locs 0 0 Q (F0 m 56 ls []) := by
              intro fu
              induction fu with
              | zero => intro wq c5 hw hf2 hJ; exact absurd hf2 (Nat.not_lt_zero _)
              | succ fu ih =>
                intro wq c5 hw hf2 hJ H locs ls hI hl
                have hA5 : RowM c5 41 0 z := hJ.1.row hA hz
                have ih_56 := ih
                refine lv_iload_n hx hy dX6_findsDepths_56 rfl (lv_at hl 0 rfl) ?_
                refine lv_iload_n hx hy dX6_findsDepths_57 rfl (lv_at hl 1 rfl) ?_
                refine lv_icmp_gt (tgt := 133) hx hy dX6_findsDepths_58 (by decide) (fun h24 => ?_) (fun h24 => ?_)
                · have h24 : nlK (z.2.2 i).1 < wq + 1 := (nI_ltI (a := nlK (z.2.2 i).1) (b := wq + 1) (by omega) (by omega)).mp h24
                  refine lv_iinc (v := nI (i + 1)) (lv' := [(1, .int (nI (i + 1))), (3, .int (nI (wq + 1))), (2, .int (nI (nlK (z.2.2 i).1))), (0, .ref (eA E 48))]) hx hy dX6_findsDepths_133 hl (k := 2) rfl (nI_add (i) 1) (by decide) rfl (fun ls hl => ?_)
                  refine lv_goto (tgt := 2) hx hy dX6_findsDepths_136 (by decide) ?_
                  exact ih_2 (i + 1) c5 (by omega) (by omega) (DepJ.done (by rw [show nlK (z.2.2 i).1 = wq from by omega]; exact hJ) hok) _ _ _ hI (lv_sub hl [0, 3] rfl)
                · have h24 : wq + 1 ≤ nlK (z.2.2 i).1 := Nat.le_of_not_lt (fun q9 => h24 ((nI_ltI (a := nlK (z.2.2 i).1) (b := wq + 1) (by omega) (by omega)).mpr q9))
                  have hnth := nth_lt (w := wq) hok (by omega)
                  have hda := hdl (nthN (z.2.2 i) wq) (by omega)
                  have hpw := hpl wq (by omega)
                  refine lv_aload_n hx hy dX6_findsDepths_61 rfl (lv_at hl 3 rfl) ?_
                  refine lv_iload_n hx hy dX6_findsDepths_62 rfl (lv_at hl 2 rfl) ?_
                  refine lv_iload_n hx hy dX6_findsDepths_63 rfl (lv_at hl 0 rfl) ?_
                  refine zI hI (xV F hI hl (kX6_of l E ((c5, u.2)) i (wq + 1) (by omega) (by omega)) M_X6_100 (rX6 F hI) rfl ⟨Nat.le_of_ble_eq_true rfl, Nat.le_of_ble_eq_true rfl⟩ ⟨Nat.zero_le _, Nat.zero_le _⟩ rfl (Nat.le_of_ble_eq_true rfl) dX6_findsDepths_64) (fun r26 v27 H locs hI hp25 => ?_)
                  subst hp25
                  refine tI (show _ = c5 41 (2 + 4 * i + (wq + 1)) from rfl) ?_
                  refine tI (RowM.nth hA5 hiz (by omega) (by omega)) ?_
                  refine lv_istore (lv' := [(4, .int (nI (nthN (z.2.2 i) wq))), (3, .int (nI (wq + 1))), (2, .int (nI (nlK (z.2.2 i).1))), (1, .int (nI i)), (0, .ref (eA E 48))]) hx hy dX6_findsDepths_67 hl (by decide) rfl (fun ls hl => ?_)
                  refine lv_aload_n hx hy dX6_findsDepths_69 rfl (lv_at hl 4 rfl) ?_
                  refine gX6_deep F hI L_X6_41 dX6_findsDepths_70 ?_
                  refine lv_iload_n hx hy dX6_findsDepths_73 rfl (lv_at hl 3 rfl) ?_
                  refine lv_aload_n hx hy dX6_findsDepths_74 rfl (lv_at hl 4 rfl) ?_
                  refine gX6_deep F hI L_X6_41 dX6_findsDepths_75 ?_
                  refine lv_iload hx hy dX6_findsDepths_78 (lv_at hl 0 rfl) ?_
                  refine aIlN F hI iX6_deep (i := nthN (z.2.2 i) wq) (by omega) (by decide) dX6_findsDepths_80 ?_
                  refine tI (show _ = c5 50 (nthN (z.2.2 i) wq) from rfl) ?_
                  refine tI (hJ.1.1 _ hnth).1 ?_
                  refine lv_iconst (v := nI 1) hx hy dX6_findsDepths_81 (by decide) ?_
                  refine lv_iadd hx hy dX6_findsDepths_82 ?_
                  refine tI (nI_add (dp z.2.2 (nthN (z.2.2 i) wq)) (1)) ?_
                  refine lv_aload_n hx hy dX6_findsDepths_83 rfl (lv_at hl 4 rfl) ?_
                  refine gX6_deep F hI L_X6_41 dX6_findsDepths_84 ?_
                  refine lv_iload_n hx hy dX6_findsDepths_87 rfl (lv_at hl 3 rfl) ?_
                  refine aIlN F hI iX6_deep (i := i) (by omega) (by decide) dX6_findsDepths_88 ?_
                  refine tI (show _ = c5 50 i from rfl) ?_
                  refine tI hJ.2.1 ?_
                  refine lv_icmp_le (tgt := 104) hx hy dX6_findsDepths_89 (by decide) (fun h28 => ?_) (fun h28 => ?_)
                  · have h28 : dp z.2.2 (nthN (z.2.2 i) wq) + 1 ≤ pd z.2.2 i wq := (nI_leI (a := dp z.2.2 (nthN (z.2.2 i) wq) + 1) (b := pd z.2.2 i wq) (by omega) (by omega)).mp h28
                    refine lv_aload_n hx hy dX6_findsDepths_104 rfl (lv_at hl 4 rfl) ?_
                    refine gX6_deep F hI L_X6_41 dX6_findsDepths_105 ?_
                    refine lv_iload_n hx hy dX6_findsDepths_108 rfl (lv_at hl 3 rfl) ?_
                    refine aIlN F hI iX6_deep (i := i) (by omega) (by decide) dX6_findsDepths_109 ?_
                    refine tI (show _ = c5 50 i from rfl) ?_
                    refine tI hJ.2.1 ?_
                    refine aIsN F hI iX6_deep (i := i) (by omega) (by decide) dX6_findsDepths_110 (fun H locs hI => ?_)
                    obtain ⟨c29, ec29⟩ : ∃ z9 : CF, z9 = up c5 50 i (nI (pd z.2.2 i wq)) := ⟨_, rfl⟩
                    have hI : Iv E s H locs (c29, u.2) := by rw [ec29]; exact hI
                    have kf30 : c29 41 (2 + 4 * i + (wq + 1)) = nI (nthN (z.2.2 i) wq) := by rw [ec29, up_at, if_neg (by omega)]; exact (RowM.nth hA5 hiz (by omega) (by omega))
                    have kf31 : c29 51 i = nI (po z.2.2 i wq) := by rw [ec29, up_at, if_neg (by omega)]; exact hJ.2.2
                    have kf32 : c29 50 (nthN (z.2.2 i) wq) = nI (dp z.2.2 (nthN (z.2.2 i) wq)) := by rw [ec29, up_at, if_neg (by omega)]; exact (hJ.1.1 _ hnth).1
                    have kf33 : c29 51 (nthN (z.2.2 i) wq) = nI (og z.2.2 (nthN (z.2.2 i) wq)) := by rw [ec29, up_at, if_neg (by omega)]; exact (hJ.1.1 _ hnth).2
                    refine lv_aload_n hx hy dX6_findsDepths_111 rfl (lv_at hl 4 rfl) ?_
                    refine gX6_sources F hI L_X6_44 dX6_findsDepths_112 ?_
                    refine lv_iload_n hx hy dX6_findsDepths_115 rfl (lv_at hl 3 rfl) ?_
                    refine lv_dup2_11 hx hy dX6_findsDepths_116 rfl rfl ?_
                    refine aIlN F hI iX6_sources (i := i) (by omega) (by decide) dX6_findsDepths_117 ?_
                    refine tI (show _ = c29 51 i from rfl) ?_
                    refine tI kf31 ?_
                    refine lv_aload_n hx hy dX6_findsDepths_118 rfl (lv_at hl 4 rfl) ?_
                    refine gX6_sources F hI L_X6_44 dX6_findsDepths_119 ?_
                    refine lv_iload hx hy dX6_findsDepths_122 (lv_at hl 0 rfl) ?_
                    refine aIlN F hI iX6_sources (i := nthN (z.2.2 i) wq) (by omega) (by decide) dX6_findsDepths_124 ?_
                    refine tI (show _ = c29 51 (nthN (z.2.2 i) wq) from rfl) ?_
                    refine tI kf33 ?_
                    refine lv_ior hx hy dX6_findsDepths_125 ?_
                    refine tI (nI_or (po z.2.2 i wq) (og z.2.2 (nthN (z.2.2 i) wq))) ?_
                    refine aIsN F hI iX6_sources (i := i) (by omega) (by decide) dX6_findsDepths_126 (fun H locs hI => ?_)
                    obtain ⟨c34, ec34⟩ : ∃ z9 : CF, z9 = up c29 51 i (nI ((po z.2.2 i wq) ||| (og z.2.2 (nthN (z.2.2 i) wq)))) := ⟨_, rfl⟩
                    have hI : Iv E s H locs (c34, u.2) := by rw [ec34]; exact hI
                    have kf35 : c34 41 (2 + 4 * i + (wq + 1)) = nI (nthN (z.2.2 i) wq) := by rw [ec34, up_at, if_neg (by omega)]; exact kf30
                    have kf36 : c34 50 (nthN (z.2.2 i) wq) = nI (dp z.2.2 (nthN (z.2.2 i) wq)) := by rw [ec34, up_at, if_neg (by omega)]; exact kf32
                    have kf37 : c34 51 (nthN (z.2.2 i) wq) = nI (og z.2.2 (nthN (z.2.2 i) wq)) := by rw [ec34, up_at, if_neg (by omega)]; exact kf33
                    refine lv_iinc (v := nI (wq + 1 + 1)) (lv' := [(3, .int (nI (wq + 1 + 1))), (4, .int (nI (nthN (z.2.2 i) wq))), (2, .int (nI (nlK (z.2.2 i).1))), (1, .int (nI i)), (0, .ref (eA E 48))]) hx hy dX6_findsDepths_127 hl (k := 1) rfl (nI_add (wq + 1) 1) (by decide) rfl (fun ls hl => ?_)
                    refine lv_goto (tgt := 56) hx hy dX6_findsDepths_130 (by decide) ?_
                    exact ih_56 (wq + 1) c34 (by omega) (by omega) (DepJ.set hJ.1 ec29 ec34 (by show _ = max (pd z.2.2 i wq) (1 + dp z.2.2 (nthN (z.2.2 i) wq)); omega) rfl) _ _ _ hI (lv_sub hl [0, 2, 3, 4] rfl)
                  · have h28 : pd z.2.2 i wq < dp z.2.2 (nthN (z.2.2 i) wq) + 1 := Nat.lt_of_not_le (fun q9 => h28 ((nI_leI (a := dp z.2.2 (nthN (z.2.2 i) wq) + 1) (b := pd z.2.2 i wq) (by omega) (by omega)).mpr q9))
                    refine lv_aload_n hx hy dX6_findsDepths_92 rfl (lv_at hl 4 rfl) ?_
                    refine gX6_deep F hI L_X6_41 dX6_findsDepths_93 ?_
                    refine lv_iload hx hy dX6_findsDepths_96 (lv_at hl 0 rfl) ?_
                    refine aIlN F hI iX6_deep (i := nthN (z.2.2 i) wq) (by omega) (by decide) dX6_findsDepths_98 ?_
                    refine tI (show _ = c5 50 (nthN (z.2.2 i) wq) from rfl) ?_
                    refine tI (hJ.1.1 _ hnth).1 ?_
                    refine lv_iconst (v := nI 1) hx hy dX6_findsDepths_99 (by decide) ?_
                    refine lv_iadd hx hy dX6_findsDepths_100 ?_
                    refine tI (nI_add (dp z.2.2 (nthN (z.2.2 i) wq)) (1)) ?_
                    refine lv_goto (tgt := 110) hx hy dX6_findsDepths_101 (by decide) ?_
                    refine aIsN F hI iX6_deep (i := i) (by omega) (by decide) dX6_findsDepths_110 (fun H locs hI => ?_)
                    obtain ⟨c38, ec38⟩ : ∃ z9 : CF, z9 = up c5 50 i (nI (dp z.2.2 (nthN (z.2.2 i) wq) + 1)) := ⟨_, rfl⟩
                    have hI : Iv E s H locs (c38, u.2) := by rw [ec38]; exact hI
                    have kf39 : c38 41 (2 + 4 * i + (wq + 1)) = nI (nthN (z.2.2 i) wq) := by rw [ec38, up_at, if_neg (by omega)]; exact (RowM.nth hA5 hiz (by omega) (by omega))
                    have kf40 : c38 51 i = nI (po z.2.2 i wq) := by rw [ec38, up_at, if_neg (by omega)]; exact hJ.2.2
                    have kf41 : c38 50 (nthN (z.2.2 i) wq) = nI (dp z.2.2 (nthN (z.2.2 i) wq)) := by rw [ec38, up_at, if_neg (by omega)]; exact (hJ.1.1 _ hnth).1
                    have kf42 : c38 51 (nthN (z.2.2 i) wq) = nI (og z.2.2 (nthN (z.2.2 i) wq)) := by rw [ec38, up_at, if_neg (by omega)]; exact (hJ.1.1 _ hnth).2
                    refine lv_aload_n hx hy dX6_findsDepths_111 rfl (lv_at hl 4 rfl) ?_
                    refine gX6_sources F hI L_X6_44 dX6_findsDepths_112 ?_
                    refine lv_iload_n hx hy dX6_findsDepths_115 rfl (lv_at hl 3 rfl) ?_
                    refine lv_dup2_11 hx hy dX6_findsDepths_116 rfl rfl ?_
                    refine aIlN F hI iX6_sources (i := i) (by omega) (by decide) dX6_findsDepths_117 ?_
                    refine tI (show _ = c38 51 i from rfl) ?_
                    refine tI kf40 ?_
                    refine lv_aload_n hx hy dX6_findsDepths_118 rfl (lv_at hl 4 rfl) ?_
                    refine gX6_sources F hI L_X6_44 dX6_findsDepths_119 ?_
                    refine lv_iload hx hy dX6_findsDepths_122 (lv_at hl 0 rfl) ?_
                    refine aIlN F hI iX6_sources (i := nthN (z.2.2 i) wq) (by omega) (by decide) dX6_findsDepths_124 ?_
                    refine tI (show _ = c38 51 (nthN (z.2.2 i) wq) from rfl) ?_
                    refine tI kf42 ?_
                    refine lv_ior hx hy dX6_findsDepths_125 ?_
                    refine tI (nI_or (po z.2.2 i wq) (og z.2.2 (nthN (z.2.2 i) wq))) ?_
                    refine aIsN F hI iX6_sources (i := i) (by omega) (by decide) dX6_findsDepths_126 (fun H locs hI => ?_)
                    obtain ⟨c43, ec43⟩ : ∃ z9 : CF, z9 = up c38 51 i (nI ((po z.2.2 i wq) ||| (og z.2.2 (nthN (z.2.2 i) wq)))) := ⟨_, rfl⟩
                    have hI : Iv E s H locs (c43, u.2) := by rw [ec43]; exact hI
                    have kf44 : c43 41 (2 + 4 * i + (wq + 1)) = nI (nthN (z.2.2 i) wq) := by rw [ec43, up_at, if_neg (by omega)]; exact kf39
                    have kf45 : c43 50 (nthN (z.2.2 i) wq) = nI (dp z.2.2 (nthN (z.2.2 i) wq)) := by rw [ec43, up_at, if_neg (by omega)]; exact kf41
                    have kf46 : c43 51 (nthN (z.2.2 i) wq) = nI (og z.2.2 (nthN (z.2.2 i) wq)) := by rw [ec43, up_at, if_neg (by omega)]; exact kf42
                    refine lv_iinc (v := nI (wq + 1 + 1)) (lv' := [(3, .int (nI (wq + 1 + 1))), (4, .int (nI (nthN (z.2.2 i) wq))), (2, .int (nI (nlK (z.2.2 i).1))), (1, .int (nI i)), (0, .ref (eA E 48))]) hx hy dX6_findsDepths_127 hl (k := 1) rfl (nI_add (wq + 1) 1) (by decide) rfl (fun ls hl => ?_)
                    refine lv_goto (tgt := 56) hx hy dX6_findsDepths_130 (by decide) ?_
                    exact ih_56 (wq + 1) c43 (by omega) (by omega) (DepJ.set hJ.1 ec38 ec43 (by show _ = max (pd z.2.2 i wq) (1 + dp z.2.2 (nthN (z.2.2 i) wq)); omega) rfl) _ _ _ hI (lv_sub hl [0, 2, 3, 4] rfl)
            exact lp23 (nlK (z.2.2 i).1 + 1) 0 c17 (by omega) (by omega) (DepJ.set hD ec10 ec17 (by show _ = if nlK (z.2.2 i).1 = 0 then 0 else 1; split <;> omega) (by show _ = if nlK (z.2.2 i).1 = 0 then 2 ^ i else 0; split <;> first | rfl | (exfalso; omega))) _ _ _ hI (lv_sub hl [0, 1, 2, 3] rfl)
          · have h16 : nlK ((z.2.2 i).1) = 0 := (nI_eq (a := nlK ((z.2.2 i).1)) (b := 0) (by omega) (by omega)).mp h16
            refine lv_iconst (v := nI 1) hx hy dX6_findsDepths_46 (by decide) ?_
            refine lv_iload_n hx hy dX6_findsDepths_47 rfl (lv_at hl 1 rfl) ?_
            refine lv_ishl hx hy dX6_findsDepths_48 ?_
            refine tI (shl_pow i (by omega)) ?_
            refine lv_goto (tgt := 53) hx hy dX6_findsDepths_49 (by decide) ?_
            refine aIsN F hI iX6_sources (i := i) (by omega) (by decide) dX6_findsDepths_53 (fun H locs hI => ?_)
            obtain ⟨c47, ec47⟩ : ∃ z9 : CF, z9 = up c10 51 i (nI (2 ^ i)) := ⟨_, rfl⟩
            have hI : Iv E s H locs (c47, u.2) := by rw [ec47]; exact hI
            have kf48 : c47 41 0 = nI z.1 := by rw [ec47, up_at, if_neg (by omega)]; exact kf11
            have kf49 : c47 41 (2 + 4 * i + 0) = nI (z.2.2 i).1 := by rw [ec47, up_at, if_neg (by omega)]; exact kf12
            have kf50 : c47 41 (2 + 4 * i + 1) = wM (z.2.2 i) 1 := by rw [ec47, up_at, if_neg (by omega)]; exact kf13
            have kf51 : c47 41 (2 + 4 * i + 2) = wM (z.2.2 i) 2 := by rw [ec47, up_at, if_neg (by omega)]; exact kf14
            have kf52 : c47 41 (2 + 4 * i + 3) = wM (z.2.2 i) 3 := by rw [ec47, up_at, if_neg (by omega)]; exact kf15
            refine lv_iconst (v := nI 1) hx hy dX6_findsDepths_54 (by decide) ?_
            refine lv_istore_n (lv' := [(3, .int (nI 1)), (2, .int (nI (nlK ((z.2.2 i).1)))), (1, .int (nI i)), (0, .ref (eA E 48))]) hx hy dX6_findsDepths_55 rfl hl (by decide) rfl (fun ls hl => ?_)
            have lp53 : ∀ (fu : Nat) (wq : Nat) (c5 : CF), (wq ≤ nlK (z.2.2 i).1) → (nlK (z.2.2 i).1 - wq < fu) → (DepJ z.2.2 i wq u.1 c5) →  ∀ (H : Heap) (locs : List Loc) (ls : Array Slot), Iv E s H locs ((c5, u.2)) → lv_has ls 5 [(3, .int (nI (wq + 1))), (2, .int (nI (nlK (z.2.2 i).1))), (1, .int (nI i)), (0, .ref (eA E 48))] → W p l e (Rm 1 22) s m args below meth co H locs 0 0 Q (F0 m 56 ls []) := by
              intro fu
              induction fu with
              | zero => intro wq c5 hw hf2 hJ; exact absurd hf2 (Nat.not_lt_zero _)
              | succ fu ih =>
                intro wq c5 hw hf2 hJ H locs ls hI hl
                have hA5 : RowM c5 41 0 z := hJ.1.row hA hz
                have ih_56 := ih
                refine lv_iload_n hx hy dX6_findsDepths_56 rfl (lv_at hl 0 rfl) ?_
                refine lv_iload_n hx hy dX6_findsDepths_57 rfl (lv_at hl 1 rfl) ?_
                refine lv_icmp_gt (tgt := 133) hx hy dX6_findsDepths_58 (by decide) (fun h54 => ?_) (fun h54 => ?_)
                · have h54 : nlK (z.2.2 i).1 < wq + 1 := (nI_ltI (a := nlK (z.2.2 i).1) (b := wq + 1) (by omega) (by omega)).mp h54
                  refine lv_iinc (v := nI (i + 1)) (lv' := [(1, .int (nI (i + 1))), (3, .int (nI (wq + 1))), (2, .int (nI (nlK (z.2.2 i).1))), (0, .ref (eA E 48))]) hx hy dX6_findsDepths_133 hl (k := 2) rfl (nI_add (i) 1) (by decide) rfl (fun ls hl => ?_)
                  refine lv_goto (tgt := 2) hx hy dX6_findsDepths_136 (by decide) ?_
                  exact ih_2 (i + 1) c5 (by omega) (by omega) (DepJ.done (by rw [show nlK (z.2.2 i).1 = wq from by omega]; exact hJ) hok) _ _ _ hI (lv_sub hl [0, 3] rfl)
                · have h54 : wq + 1 ≤ nlK (z.2.2 i).1 := Nat.le_of_not_lt (fun q9 => h54 ((nI_ltI (a := nlK (z.2.2 i).1) (b := wq + 1) (by omega) (by omega)).mpr q9))
                  have hnth := nth_lt (w := wq) hok (by omega)
                  have hda := hdl (nthN (z.2.2 i) wq) (by omega)
                  have hpw := hpl wq (by omega)
                  refine lv_aload_n hx hy dX6_findsDepths_61 rfl (lv_at hl 3 rfl) ?_
                  refine lv_iload_n hx hy dX6_findsDepths_62 rfl (lv_at hl 2 rfl) ?_
                  refine lv_iload_n hx hy dX6_findsDepths_63 rfl (lv_at hl 0 rfl) ?_
                  refine zI hI (xV F hI hl (kX6_of l E ((c5, u.2)) i (wq + 1) (by omega) (by omega)) M_X6_100 (rX6 F hI) rfl ⟨Nat.le_of_ble_eq_true rfl, Nat.le_of_ble_eq_true rfl⟩ ⟨Nat.zero_le _, Nat.zero_le _⟩ rfl (Nat.le_of_ble_eq_true rfl) dX6_findsDepths_64) (fun r56 v57 H locs hI hp55 => ?_)
                  subst hp55
                  refine tI (show _ = c5 41 (2 + 4 * i + (wq + 1)) from rfl) ?_
                  refine tI (RowM.nth hA5 hiz (by omega) (by omega)) ?_
                  refine lv_istore (lv' := [(4, .int (nI (nthN (z.2.2 i) wq))), (3, .int (nI (wq + 1))), (2, .int (nI (nlK (z.2.2 i).1))), (1, .int (nI i)), (0, .ref (eA E 48))]) hx hy dX6_findsDepths_67 hl (by decide) rfl (fun ls hl => ?_)
                  refine lv_aload_n hx hy dX6_findsDepths_69 rfl (lv_at hl 4 rfl) ?_
                  refine gX6_deep F hI L_X6_41 dX6_findsDepths_70 ?_
                  refine lv_iload_n hx hy dX6_findsDepths_73 rfl (lv_at hl 3 rfl) ?_
                  refine lv_aload_n hx hy dX6_findsDepths_74 rfl (lv_at hl 4 rfl) ?_
                  refine gX6_deep F hI L_X6_41 dX6_findsDepths_75 ?_
                  refine lv_iload hx hy dX6_findsDepths_78 (lv_at hl 0 rfl) ?_
                  refine aIlN F hI iX6_deep (i := nthN (z.2.2 i) wq) (by omega) (by decide) dX6_findsDepths_80 ?_
                  refine tI (show _ = c5 50 (nthN (z.2.2 i) wq) from rfl) ?_
                  refine tI (hJ.1.1 _ hnth).1 ?_
                  refine lv_iconst (v := nI 1) hx hy dX6_findsDepths_81 (by decide) ?_
                  refine lv_iadd hx hy dX6_findsDepths_82 ?_
                  refine tI (nI_add (dp z.2.2 (nthN (z.2.2 i) wq)) (1)) ?_
                  refine lv_aload_n hx hy dX6_findsDepths_83 rfl (lv_at hl 4 rfl) ?_
                  refine gX6_deep F hI L_X6_41 dX6_findsDepths_84 ?_
                  refine lv_iload_n hx hy dX6_findsDepths_87 rfl (lv_at hl 3 rfl) ?_
                  refine aIlN F hI iX6_deep (i := i) (by omega) (by decide) dX6_findsDepths_88 ?_
                  refine tI (show _ = c5 50 i from rfl) ?_
                  refine tI hJ.2.1 ?_
                  refine lv_icmp_le (tgt := 104) hx hy dX6_findsDepths_89 (by decide) (fun h58 => ?_) (fun h58 => ?_)
                  · have h58 : dp z.2.2 (nthN (z.2.2 i) wq) + 1 ≤ pd z.2.2 i wq := (nI_leI (a := dp z.2.2 (nthN (z.2.2 i) wq) + 1) (b := pd z.2.2 i wq) (by omega) (by omega)).mp h58
                    refine lv_aload_n hx hy dX6_findsDepths_104 rfl (lv_at hl 4 rfl) ?_
                    refine gX6_deep F hI L_X6_41 dX6_findsDepths_105 ?_
                    refine lv_iload_n hx hy dX6_findsDepths_108 rfl (lv_at hl 3 rfl) ?_
                    refine aIlN F hI iX6_deep (i := i) (by omega) (by decide) dX6_findsDepths_109 ?_
                    refine tI (show _ = c5 50 i from rfl) ?_
                    refine tI hJ.2.1 ?_
                    refine aIsN F hI iX6_deep (i := i) (by omega) (by decide) dX6_findsDepths_110 (fun H locs hI => ?_)
                    obtain ⟨c59, ec59⟩ : ∃ z9 : CF, z9 = up c5 50 i (nI (pd z.2.2 i wq)) := ⟨_, rfl⟩
                    have hI : Iv E s H locs (c59, u.2) := by rw [ec59]; exact hI
                    have kf60 : c59 41 (2 + 4 * i + (wq + 1)) = nI (nthN (z.2.2 i) wq) := by rw [ec59, up_at, if_neg (by omega)]; exact (RowM.nth hA5 hiz (by omega) (by omega))
                    have kf61 : c59 51 i = nI (po z.2.2 i wq) := by rw [ec59, up_at, if_neg (by omega)]; exact hJ.2.2
                    have kf62 : c59 50 (nthN (z.2.2 i) wq) = nI (dp z.2.2 (nthN (z.2.2 i) wq)) := by rw [ec59, up_at, if_neg (by omega)]; exact (hJ.1.1 _ hnth).1
                    have kf63 : c59 51 (nthN (z.2.2 i) wq) = nI (og z.2.2 (nthN (z.2.2 i) wq)) := by rw [ec59, up_at, if_neg (by omega)]; exact (hJ.1.1 _ hnth).2
                    refine lv_aload_n hx hy dX6_findsDepths_111 rfl (lv_at hl 4 rfl) ?_
                    refine gX6_sources F hI L_X6_44 dX6_findsDepths_112 ?_
                    refine lv_iload_n hx hy dX6_findsDepths_115 rfl (lv_at hl 3 rfl) ?_
                    refine lv_dup2_11 hx hy dX6_findsDepths_116 rfl rfl ?_
                    refine aIlN F hI iX6_sources (i := i) (by omega) (by decide) dX6_findsDepths_117 ?_
                    refine tI (show _ = c59 51 i from rfl) ?_
                    refine tI kf61 ?_
                    refine lv_aload_n hx hy dX6_findsDepths_118 rfl (lv_at hl 4 rfl) ?_
                    refine gX6_sources F hI L_X6_44 dX6_findsDepths_119 ?_
                    refine lv_iload hx hy dX6_findsDepths_122 (lv_at hl 0 rfl) ?_
                    refine aIlN F hI iX6_sources (i := nthN (z.2.2 i) wq) (by omega) (by decide) dX6_findsDepths_124 ?_
                    refine tI (show _ = c59 51 (nthN (z.2.2 i) wq) from rfl) ?_
                    refine tI kf63 ?_
                    refine lv_ior hx hy dX6_findsDepths_125 ?_
                    refine tI (nI_or (po z.2.2 i wq) (og z.2.2 (nthN (z.2.2 i) wq))) ?_
                    refine aIsN F hI iX6_sources (i := i) (by omega) (by decide) dX6_findsDepths_126 (fun H locs hI => ?_)
                    obtain ⟨c64, ec64⟩ : ∃ z9 : CF, z9 = up c59 51 i (nI ((po z.2.2 i wq) ||| (og z.2.2 (nthN (z.2.2 i) wq)))) := ⟨_, rfl⟩
                    have hI : Iv E s H locs (c64, u.2) := by rw [ec64]; exact hI
                    have kf65 : c64 41 (2 + 4 * i + (wq + 1)) = nI (nthN (z.2.2 i) wq) := by rw [ec64, up_at, if_neg (by omega)]; exact kf60
                    have kf66 : c64 50 (nthN (z.2.2 i) wq) = nI (dp z.2.2 (nthN (z.2.2 i) wq)) := by rw [ec64, up_at, if_neg (by omega)]; exact kf62
                    have kf67 : c64 51 (nthN (z.2.2 i) wq) = nI (og z.2.2 (nthN (z.2.2 i) wq)) := by rw [ec64, up_at, if_neg (by omega)]; exact kf63
                    refine lv_iinc (v := nI (wq + 1 + 1)) (lv' := [(3, .int (nI (wq + 1 + 1))), (4, .int (nI (nthN (z.2.2 i) wq))), (2, .int (nI (nlK (z.2.2 i).1))), (1, .int (nI i)), (0, .ref (eA E 48))]) hx hy dX6_findsDepths_127 hl (k := 1) rfl (nI_add (wq + 1) 1) (by decide) rfl (fun ls hl => ?_)
                    refine lv_goto (tgt := 56) hx hy dX6_findsDepths_130 (by decide) ?_
                    exact ih_56 (wq + 1) c64 (by omega) (by omega) (DepJ.set hJ.1 ec59 ec64 (by show _ = max (pd z.2.2 i wq) (1 + dp z.2.2 (nthN (z.2.2 i) wq)); omega) rfl) _ _ _ hI (lv_sub hl [0, 2, 3, 4] rfl)
                  · have h58 : pd z.2.2 i wq < dp z.2.2 (nthN (z.2.2 i) wq) + 1 := Nat.lt_of_not_le (fun q9 => h58 ((nI_leI (a := dp z.2.2 (nthN (z.2.2 i) wq) + 1) (b := pd z.2.2 i wq) (by omega) (by omega)).mpr q9))
                    refine lv_aload_n hx hy dX6_findsDepths_92 rfl (lv_at hl 4 rfl) ?_
                    refine gX6_deep F hI L_X6_41 dX6_findsDepths_93 ?_
                    refine lv_iload hx hy dX6_findsDepths_96 (lv_at hl 0 rfl) ?_
                    refine aIlN F hI iX6_deep (i := nthN (z.2.2 i) wq) (by omega) (by decide) dX6_findsDepths_98 ?_
                    refine tI (show _ = c5 50 (nthN (z.2.2 i) wq) from rfl) ?_
                    refine tI (hJ.1.1 _ hnth).1 ?_
                    refine lv_iconst (v := nI 1) hx hy dX6_findsDepths_99 (by decide) ?_
                    refine lv_iadd hx hy dX6_findsDepths_100 ?_
                    refine tI (nI_add (dp z.2.2 (nthN (z.2.2 i) wq)) (1)) ?_
                    refine lv_goto (tgt := 110) hx hy dX6_findsDepths_101 (by decide) ?_
                    refine aIsN F hI iX6_deep (i := i) (by omega) (by decide) dX6_findsDepths_110 (fun H locs hI => ?_)
                    obtain ⟨c68, ec68⟩ : ∃ z9 : CF, z9 = up c5 50 i (nI (dp z.2.2 (nthN (z.2.2 i) wq) + 1)) := ⟨_, rfl⟩
                    have hI : Iv E s H locs (c68, u.2) := by rw [ec68]; exact hI
                    have kf69 : c68 41 (2 + 4 * i + (wq + 1)) = nI (nthN (z.2.2 i) wq) := by rw [ec68, up_at, if_neg (by omega)]; exact (RowM.nth hA5 hiz (by omega) (by omega))
                    have kf70 : c68 51 i = nI (po z.2.2 i wq) := by rw [ec68, up_at, if_neg (by omega)]; exact hJ.2.2
                    have kf71 : c68 50 (nthN (z.2.2 i) wq) = nI (dp z.2.2 (nthN (z.2.2 i) wq)) := by rw [ec68, up_at, if_neg (by omega)]; exact (hJ.1.1 _ hnth).1
                    have kf72 : c68 51 (nthN (z.2.2 i) wq) = nI (og z.2.2 (nthN (z.2.2 i) wq)) := by rw [ec68, up_at, if_neg (by omega)]; exact (hJ.1.1 _ hnth).2
                    refine lv_aload_n hx hy dX6_findsDepths_111 rfl (lv_at hl 4 rfl) ?_
                    refine gX6_sources F hI L_X6_44 dX6_findsDepths_112 ?_
                    refine lv_iload_n hx hy dX6_findsDepths_115 rfl (lv_at hl 3 rfl) ?_
                    refine lv_dup2_11 hx hy dX6_findsDepths_116 rfl rfl ?_
                    refine aIlN F hI iX6_sources (i := i) (by omega) (by decide) dX6_findsDepths_117 ?_
                    refine tI (show _ = c68 51 i from rfl) ?_
                    refine tI kf70 ?_
                    refine lv_aload_n hx hy dX6_findsDepths_118 rfl (lv_at hl 4 rfl) ?_
                    refine gX6_sources F hI L_X6_44 dX6_findsDepths_119 ?_
                    refine lv_iload hx hy dX6_findsDepths_122 (lv_at hl 0 rfl) ?_
                    refine aIlN F hI iX6_sources (i := nthN (z.2.2 i) wq) (by omega) (by decide) dX6_findsDepths_124 ?_
                    refine tI (show _ = c68 51 (nthN (z.2.2 i) wq) from rfl) ?_
                    refine tI kf72 ?_
                    refine lv_ior hx hy dX6_findsDepths_125 ?_
                    refine tI (nI_or (po z.2.2 i wq) (og z.2.2 (nthN (z.2.2 i) wq))) ?_
                    refine aIsN F hI iX6_sources (i := i) (by omega) (by decide) dX6_findsDepths_126 (fun H locs hI => ?_)
                    obtain ⟨c73, ec73⟩ : ∃ z9 : CF, z9 = up c68 51 i (nI ((po z.2.2 i wq) ||| (og z.2.2 (nthN (z.2.2 i) wq)))) := ⟨_, rfl⟩
                    have hI : Iv E s H locs (c73, u.2) := by rw [ec73]; exact hI
                    have kf74 : c73 41 (2 + 4 * i + (wq + 1)) = nI (nthN (z.2.2 i) wq) := by rw [ec73, up_at, if_neg (by omega)]; exact kf69
                    have kf75 : c73 50 (nthN (z.2.2 i) wq) = nI (dp z.2.2 (nthN (z.2.2 i) wq)) := by rw [ec73, up_at, if_neg (by omega)]; exact kf71
                    have kf76 : c73 51 (nthN (z.2.2 i) wq) = nI (og z.2.2 (nthN (z.2.2 i) wq)) := by rw [ec73, up_at, if_neg (by omega)]; exact kf72
                    refine lv_iinc (v := nI (wq + 1 + 1)) (lv' := [(3, .int (nI (wq + 1 + 1))), (4, .int (nI (nthN (z.2.2 i) wq))), (2, .int (nI (nlK (z.2.2 i).1))), (1, .int (nI i)), (0, .ref (eA E 48))]) hx hy dX6_findsDepths_127 hl (k := 1) rfl (nI_add (wq + 1) 1) (by decide) rfl (fun ls hl => ?_)
                    refine lv_goto (tgt := 56) hx hy dX6_findsDepths_130 (by decide) ?_
                    exact ih_56 (wq + 1) c73 (by omega) (by omega) (DepJ.set hJ.1 ec68 ec73 (by show _ = max (pd z.2.2 i wq) (1 + dp z.2.2 (nthN (z.2.2 i) wq)); omega) rfl) _ _ _ hI (lv_sub hl [0, 2, 3, 4] rfl)
            exact lp53 (nlK (z.2.2 i).1 + 1) 0 c47 (by omega) (by omega) (DepJ.set hD ec10 ec47 (by show _ = if nlK (z.2.2 i).1 = 0 then 0 else 1; split <;> omega) (by show _ = if nlK (z.2.2 i).1 = 0 then 2 ^ i else 0; split <;> first | rfl | (exfalso; omega))) _ _ _ hI (lv_sub hl [0, 1, 2, 3] rfl)
        · have h9 : nlK ((z.2.2 i).1) = 0 := (nI_eq (a := nlK ((z.2.2 i).1)) (b := 0) (by omega) (by omega)).mp h9
          refine lv_iconst (v := nI 0) hx hy dX6_findsDepths_31 (by decide) ?_
          refine lv_goto (tgt := 36) hx hy dX6_findsDepths_32 (by decide) ?_
          refine aIsN F hI iX6_deep (i := i) (by omega) (by decide) dX6_findsDepths_36 (fun H locs hI => ?_)
          obtain ⟨c77, ec77⟩ : ∃ z9 : CF, z9 = up c 50 i (nI 0) := ⟨_, rfl⟩
          have hI : Iv E s H locs (c77, u.2) := by rw [ec77]; exact hI
          have kf78 : c77 41 0 = nI z.1 := by rw [ec77, up_at, if_neg (by omega)]; exact hAc.1
          have kf79 : c77 41 (2 + 4 * i + 0) = nI (z.2.2 i).1 := by rw [ec77, up_at, if_neg (by omega)]; exact (RowM.k hAc hiz)
          have kf80 : c77 41 (2 + 4 * i + 1) = wM (z.2.2 i) 1 := by rw [ec77, up_at, if_neg (by omega)]; exact (RowM.w1 hAc hiz)
          have kf81 : c77 41 (2 + 4 * i + 2) = wM (z.2.2 i) 2 := by rw [ec77, up_at, if_neg (by omega)]; exact (RowM.w2 hAc hiz)
          have kf82 : c77 41 (2 + 4 * i + 3) = wM (z.2.2 i) 3 := by rw [ec77, up_at, if_neg (by omega)]; exact (RowM.w3 hAc hiz)
          refine lv_aload_n hx hy dX6_findsDepths_37 rfl (lv_at hl 2 rfl) ?_
          refine gX6_sources F hI L_X6_44 dX6_findsDepths_38 ?_
          refine lv_iload_n hx hy dX6_findsDepths_41 rfl (lv_at hl 1 rfl) ?_
          refine lv_iload_n hx hy dX6_findsDepths_42 rfl (lv_at hl 0 rfl) ?_
          refine lv_if_ne (tgt := 52) hx hy dX6_findsDepths_43 (by decide) (fun h83 => ?_) (fun h83 => ?_)
          · have h83 : nlK ((z.2.2 i).1) ≠ 0 := fun q9 => h83 ((nI_eq (a := nlK ((z.2.2 i).1)) (b := 0) (by omega) (by omega)).mpr q9)
            refine lv_iconst (v := nI 0) hx hy dX6_findsDepths_52 (by decide) ?_
            refine aIsN F hI iX6_sources (i := i) (by omega) (by decide) dX6_findsDepths_53 (fun H locs hI => ?_)
            obtain ⟨c84, ec84⟩ : ∃ z9 : CF, z9 = up c77 51 i (nI 0) := ⟨_, rfl⟩
            have hI : Iv E s H locs (c84, u.2) := by rw [ec84]; exact hI
            have kf85 : c84 41 0 = nI z.1 := by rw [ec84, up_at, if_neg (by omega)]; exact kf78
            have kf86 : c84 41 (2 + 4 * i + 0) = nI (z.2.2 i).1 := by rw [ec84, up_at, if_neg (by omega)]; exact kf79
            have kf87 : c84 41 (2 + 4 * i + 1) = wM (z.2.2 i) 1 := by rw [ec84, up_at, if_neg (by omega)]; exact kf80
            have kf88 : c84 41 (2 + 4 * i + 2) = wM (z.2.2 i) 2 := by rw [ec84, up_at, if_neg (by omega)]; exact kf81
            have kf89 : c84 41 (2 + 4 * i + 3) = wM (z.2.2 i) 3 := by rw [ec84, up_at, if_neg (by omega)]; exact kf82
            refine lv_iconst (v := nI 1) hx hy dX6_findsDepths_54 (by decide) ?_
            refine lv_istore_n (lv' := [(3, .int (nI 1)), (2, .int (nI (nlK ((z.2.2 i).1)))), (1, .int (nI i)), (0, .ref (eA E 48))]) hx hy dX6_findsDepths_55 rfl hl (by decide) rfl (fun ls hl => ?_)
            have lp90 : ∀ (fu : Nat) (wq : Nat) (c5 : CF), (wq ≤ nlK (z.2.2 i).1) → (nlK (z.2.2 i).1 - wq < fu) → (DepJ z.2.2 i wq u.1 c5) →  ∀ (H : Heap) (locs : List Loc) (ls : Array Slot), Iv E s H locs ((c5, u.2)) → lv_has ls 5 [(3, .int (nI (wq + 1))), (2, .int (nI (nlK (z.2.2 i).1))), (1, .int (nI i)), (0, .ref (eA E 48))] → W p l e (Rm 1 22) s m args below meth co H locs 0 0 Q (F0 m 56 ls []) := by
              intro fu
              induction fu with
              | zero => intro wq c5 hw hf2 hJ; exact absurd hf2 (Nat.not_lt_zero _)
              | succ fu ih =>
                intro wq c5 hw hf2 hJ H locs ls hI hl
                have hA5 : RowM c5 41 0 z := hJ.1.row hA hz
                have ih_56 := ih
                refine lv_iload_n hx hy dX6_findsDepths_56 rfl (lv_at hl 0 rfl) ?_
                refine lv_iload_n hx hy dX6_findsDepths_57 rfl (lv_at hl 1 rfl) ?_
                refine lv_icmp_gt (tgt := 133) hx hy dX6_findsDepths_58 (by decide) (fun h91 => ?_) (fun h91 => ?_)
                · have h91 : nlK (z.2.2 i).1 < wq + 1 := (nI_ltI (a := nlK (z.2.2 i).1) (b := wq + 1) (by omega) (by omega)).mp h91
                  refine lv_iinc (v := nI (i + 1)) (lv' := [(1, .int (nI (i + 1))), (3, .int (nI (wq + 1))), (2, .int (nI (nlK (z.2.2 i).1))), (0, .ref (eA E 48))]) hx hy dX6_findsDepths_133 hl (k := 2) rfl (nI_add (i) 1) (by decide) rfl (fun ls hl => ?_)
                  refine lv_goto (tgt := 2) hx hy dX6_findsDepths_136 (by decide) ?_
                  exact ih_2 (i + 1) c5 (by omega) (by omega) (DepJ.done (by rw [show nlK (z.2.2 i).1 = wq from by omega]; exact hJ) hok) _ _ _ hI (lv_sub hl [0, 3] rfl)
                · have h91 : wq + 1 ≤ nlK (z.2.2 i).1 := Nat.le_of_not_lt (fun q9 => h91 ((nI_ltI (a := nlK (z.2.2 i).1) (b := wq + 1) (by omega) (by omega)).mpr q9))
                  have hnth := nth_lt (w := wq) hok (by omega)
                  have hda := hdl (nthN (z.2.2 i) wq) (by omega)
                  have hpw := hpl wq (by omega)
                  refine lv_aload_n hx hy dX6_findsDepths_61 rfl (lv_at hl 3 rfl) ?_
                  refine lv_iload_n hx hy dX6_findsDepths_62 rfl (lv_at hl 2 rfl) ?_
                  refine lv_iload_n hx hy dX6_findsDepths_63 rfl (lv_at hl 0 rfl) ?_
                  refine zI hI (xV F hI hl (kX6_of l E ((c5, u.2)) i (wq + 1) (by omega) (by omega)) M_X6_100 (rX6 F hI) rfl ⟨Nat.le_of_ble_eq_true rfl, Nat.le_of_ble_eq_true rfl⟩ ⟨Nat.zero_le _, Nat.zero_le _⟩ rfl (Nat.le_of_ble_eq_true rfl) dX6_findsDepths_64) (fun r93 v94 H locs hI hp92 => ?_)
                  subst hp92
                  refine tI (show _ = c5 41 (2 + 4 * i + (wq + 1)) from rfl) ?_
                  refine tI (RowM.nth hA5 hiz (by omega) (by omega)) ?_
                  refine lv_istore (lv' := [(4, .int (nI (nthN (z.2.2 i) wq))), (3, .int (nI (wq + 1))), (2, .int (nI (nlK (z.2.2 i).1))), (1, .int (nI i)), (0, .ref (eA E 48))]) hx hy dX6_findsDepths_67 hl (by decide) rfl (fun ls hl => ?_)
                  refine lv_aload_n hx hy dX6_findsDepths_69 rfl (lv_at hl 4 rfl) ?_
                  refine gX6_deep F hI L_X6_41 dX6_findsDepths_70 ?_
                  refine lv_iload_n hx hy dX6_findsDepths_73 rfl (lv_at hl 3 rfl) ?_
                  refine lv_aload_n hx hy dX6_findsDepths_74 rfl (lv_at hl 4 rfl) ?_
                  refine gX6_deep F hI L_X6_41 dX6_findsDepths_75 ?_
                  refine lv_iload hx hy dX6_findsDepths_78 (lv_at hl 0 rfl) ?_
                  refine aIlN F hI iX6_deep (i := nthN (z.2.2 i) wq) (by omega) (by decide) dX6_findsDepths_80 ?_
                  refine tI (show _ = c5 50 (nthN (z.2.2 i) wq) from rfl) ?_
                  refine tI (hJ.1.1 _ hnth).1 ?_
                  refine lv_iconst (v := nI 1) hx hy dX6_findsDepths_81 (by decide) ?_
                  refine lv_iadd hx hy dX6_findsDepths_82 ?_
                  refine tI (nI_add (dp z.2.2 (nthN (z.2.2 i) wq)) (1)) ?_
                  refine lv_aload_n hx hy dX6_findsDepths_83 rfl (lv_at hl 4 rfl) ?_
                  refine gX6_deep F hI L_X6_41 dX6_findsDepths_84 ?_
                  refine lv_iload_n hx hy dX6_findsDepths_87 rfl (lv_at hl 3 rfl) ?_
                  refine aIlN F hI iX6_deep (i := i) (by omega) (by decide) dX6_findsDepths_88 ?_
                  refine tI (show _ = c5 50 i from rfl) ?_
                  refine tI hJ.2.1 ?_
                  refine lv_icmp_le (tgt := 104) hx hy dX6_findsDepths_89 (by decide) (fun h95 => ?_) (fun h95 => ?_)
                  · have h95 : dp z.2.2 (nthN (z.2.2 i) wq) + 1 ≤ pd z.2.2 i wq := (nI_leI (a := dp z.2.2 (nthN (z.2.2 i) wq) + 1) (b := pd z.2.2 i wq) (by omega) (by omega)).mp h95
                    refine lv_aload_n hx hy dX6_findsDepths_104 rfl (lv_at hl 4 rfl) ?_
                    refine gX6_deep F hI L_X6_41 dX6_findsDepths_105 ?_
                    refine lv_iload_n hx hy dX6_findsDepths_108 rfl (lv_at hl 3 rfl) ?_
                    refine aIlN F hI iX6_deep (i := i) (by omega) (by decide) dX6_findsDepths_109 ?_
                    refine tI (show _ = c5 50 i from rfl) ?_
                    refine tI hJ.2.1 ?_
                    refine aIsN F hI iX6_deep (i := i) (by omega) (by decide) dX6_findsDepths_110 (fun H locs hI => ?_)
                    obtain ⟨c96, ec96⟩ : ∃ z9 : CF, z9 = up c5 50 i (nI (pd z.2.2 i wq)) := ⟨_, rfl⟩
                    have hI : Iv E s H locs (c96, u.2) := by rw [ec96]; exact hI
                    have kf97 : c96 41 (2 + 4 * i + (wq + 1)) = nI (nthN (z.2.2 i) wq) := by rw [ec96, up_at, if_neg (by omega)]; exact (RowM.nth hA5 hiz (by omega) (by omega))
                    have kf98 : c96 51 i = nI (po z.2.2 i wq) := by rw [ec96, up_at, if_neg (by omega)]; exact hJ.2.2
                    have kf99 : c96 50 (nthN (z.2.2 i) wq) = nI (dp z.2.2 (nthN (z.2.2 i) wq)) := by rw [ec96, up_at, if_neg (by omega)]; exact (hJ.1.1 _ hnth).1
                    have kf100 : c96 51 (nthN (z.2.2 i) wq) = nI (og z.2.2 (nthN (z.2.2 i) wq)) := by rw [ec96, up_at, if_neg (by omega)]; exact (hJ.1.1 _ hnth).2
                    refine lv_aload_n hx hy dX6_findsDepths_111 rfl (lv_at hl 4 rfl) ?_
                    refine gX6_sources F hI L_X6_44 dX6_findsDepths_112 ?_
                    refine lv_iload_n hx hy dX6_findsDepths_115 rfl (lv_at hl 3 rfl) ?_
                    refine lv_dup2_11 hx hy dX6_findsDepths_116 rfl rfl ?_
                    refine aIlN F hI iX6_sources (i := i) (by omega) (by decide) dX6_findsDepths_117 ?_
                    refine tI (show _ = c96 51 i from rfl) ?_
                    refine tI kf98 ?_
                    refine lv_aload_n hx hy dX6_findsDepths_118 rfl (lv_at hl 4 rfl) ?_
                    refine gX6_sources F hI L_X6_44 dX6_findsDepths_119 ?_
                    refine lv_iload hx hy dX6_findsDepths_122 (lv_at hl 0 rfl) ?_
                    refine aIlN F hI iX6_sources (i := nthN (z.2.2 i) wq) (by omega) (by decide) dX6_findsDepths_124 ?_
                    refine tI (show _ = c96 51 (nthN (z.2.2 i) wq) from rfl) ?_
                    refine tI kf100 ?_
                    refine lv_ior hx hy dX6_findsDepths_125 ?_
                    refine tI (nI_or (po z.2.2 i wq) (og z.2.2 (nthN (z.2.2 i) wq))) ?_
                    refine aIsN F hI iX6_sources (i := i) (by omega) (by decide) dX6_findsDepths_126 (fun H locs hI => ?_)
                    obtain ⟨c101, ec101⟩ : ∃ z9 : CF, z9 = up c96 51 i (nI ((po z.2.2 i wq) ||| (og z.2.2 (nthN (z.2.2 i) wq)))) := ⟨_, rfl⟩
                    have hI : Iv E s H locs (c101, u.2) := by rw [ec101]; exact hI
                    have kf102 : c101 41 (2 + 4 * i + (wq + 1)) = nI (nthN (z.2.2 i) wq) := by rw [ec101, up_at, if_neg (by omega)]; exact kf97
                    have kf103 : c101 50 (nthN (z.2.2 i) wq) = nI (dp z.2.2 (nthN (z.2.2 i) wq)) := by rw [ec101, up_at, if_neg (by omega)]; exact kf99
                    have kf104 : c101 51 (nthN (z.2.2 i) wq) = nI (og z.2.2 (nthN (z.2.2 i) wq)) := by rw [ec101, up_at, if_neg (by omega)]; exact kf100
                    refine lv_iinc (v := nI (wq + 1 + 1)) (lv' := [(3, .int (nI (wq + 1 + 1))), (4, .int (nI (nthN (z.2.2 i) wq))), (2, .int (nI (nlK (z.2.2 i).1))), (1, .int (nI i)), (0, .ref (eA E 48))]) hx hy dX6_findsDepths_127 hl (k := 1) rfl (nI_add (wq + 1) 1) (by decide) rfl (fun ls hl => ?_)
                    refine lv_goto (tgt := 56) hx hy dX6_findsDepths_130 (by decide) ?_
                    exact ih_56 (wq + 1) c101 (by omega) (by omega) (DepJ.set hJ.1 ec96 ec101 (by show _ = max (pd z.2.2 i wq) (1 + dp z.2.2 (nthN (z.2.2 i) wq)); omega) rfl) _ _ _ hI (lv_sub hl [0, 2, 3, 4] rfl)
                  · have h95 : pd z.2.2 i wq < dp z.2.2 (nthN (z.2.2 i) wq) + 1 := Nat.lt_of_not_le (fun q9 => h95 ((nI_leI (a := dp z.2.2 (nthN (z.2.2 i) wq) + 1) (b := pd z.2.2 i wq) (by omega) (by omega)).mpr q9))
                    refine lv_aload_n hx hy dX6_findsDepths_92 rfl (lv_at hl 4 rfl) ?_
                    refine gX6_deep F hI L_X6_41 dX6_findsDepths_93 ?_
                    refine lv_iload hx hy dX6_findsDepths_96 (lv_at hl 0 rfl) ?_
                    refine aIlN F hI iX6_deep (i := nthN (z.2.2 i) wq) (by omega) (by decide) dX6_findsDepths_98 ?_
                    refine tI (show _ = c5 50 (nthN (z.2.2 i) wq) from rfl) ?_
                    refine tI (hJ.1.1 _ hnth).1 ?_
                    refine lv_iconst (v := nI 1) hx hy dX6_findsDepths_99 (by decide) ?_
                    refine lv_iadd hx hy dX6_findsDepths_100 ?_
                    refine tI (nI_add (dp z.2.2 (nthN (z.2.2 i) wq)) (1)) ?_
                    refine lv_goto (tgt := 110) hx hy dX6_findsDepths_101 (by decide) ?_
                    refine aIsN F hI iX6_deep (i := i) (by omega) (by decide) dX6_findsDepths_110 (fun H locs hI => ?_)
                    obtain ⟨c105, ec105⟩ : ∃ z9 : CF, z9 = up c5 50 i (nI (dp z.2.2 (nthN (z.2.2 i) wq) + 1)) := ⟨_, rfl⟩
                    have hI : Iv E s H locs (c105, u.2) := by rw [ec105]; exact hI
                    have kf106 : c105 41 (2 + 4 * i + (wq + 1)) = nI (nthN (z.2.2 i) wq) := by rw [ec105, up_at, if_neg (by omega)]; exact (RowM.nth hA5 hiz (by omega) (by omega))
                    have kf107 : c105 51 i = nI (po z.2.2 i wq) := by rw [ec105, up_at, if_neg (by omega)]; exact hJ.2.2
                    have kf108 : c105 50 (nthN (z.2.2 i) wq) = nI (dp z.2.2 (nthN (z.2.2 i) wq)) := by rw [ec105, up_at, if_neg (by omega)]; exact (hJ.1.1 _ hnth).1
                    have kf109 : c105 51 (nthN (z.2.2 i) wq) = nI (og z.2.2 (nthN (z.2.2 i) wq)) := by rw [ec105, up_at, if_neg (by omega)]; exact (hJ.1.1 _ hnth).2
                    refine lv_aload_n hx hy dX6_findsDepths_111 rfl (lv_at hl 4 rfl) ?_
                    refine gX6_sources F hI L_X6_44 dX6_findsDepths_112 ?_
                    refine lv_iload_n hx hy dX6_findsDepths_115 rfl (lv_at hl 3 rfl) ?_
                    refine lv_dup2_11 hx hy dX6_findsDepths_116 rfl rfl ?_
                    refine aIlN F hI iX6_sources (i := i) (by omega) (by decide) dX6_findsDepths_117 ?_
                    refine tI (show _ = c105 51 i from rfl) ?_
                    refine tI kf107 ?_
                    refine lv_aload_n hx hy dX6_findsDepths_118 rfl (lv_at hl 4 rfl) ?_
                    refine gX6_sources F hI L_X6_44 dX6_findsDepths_119 ?_
                    refine lv_iload hx hy dX6_findsDepths_122 (lv_at hl 0 rfl) ?_
                    refine aIlN F hI iX6_sources (i := nthN (z.2.2 i) wq) (by omega) (by decide) dX6_findsDepths_124 ?_
                    refine tI (show _ = c105 51 (nthN (z.2.2 i) wq) from rfl) ?_
                    refine tI kf109 ?_
                    refine lv_ior hx hy dX6_findsDepths_125 ?_
                    refine tI (nI_or (po z.2.2 i wq) (og z.2.2 (nthN (z.2.2 i) wq))) ?_
                    refine aIsN F hI iX6_sources (i := i) (by omega) (by decide) dX6_findsDepths_126 (fun H locs hI => ?_)
                    obtain ⟨c110, ec110⟩ : ∃ z9 : CF, z9 = up c105 51 i (nI ((po z.2.2 i wq) ||| (og z.2.2 (nthN (z.2.2 i) wq)))) := ⟨_, rfl⟩
                    have hI : Iv E s H locs (c110, u.2) := by rw [ec110]; exact hI
                    have kf111 : c110 41 (2 + 4 * i + (wq + 1)) = nI (nthN (z.2.2 i) wq) := by rw [ec110, up_at, if_neg (by omega)]; exact kf106
                    have kf112 : c110 50 (nthN (z.2.2 i) wq) = nI (dp z.2.2 (nthN (z.2.2 i) wq)) := by rw [ec110, up_at, if_neg (by omega)]; exact kf108
                    have kf113 : c110 51 (nthN (z.2.2 i) wq) = nI (og z.2.2 (nthN (z.2.2 i) wq)) := by rw [ec110, up_at, if_neg (by omega)]; exact kf109
                    refine lv_iinc (v := nI (wq + 1 + 1)) (lv' := [(3, .int (nI (wq + 1 + 1))), (4, .int (nI (nthN (z.2.2 i) wq))), (2, .int (nI (nlK (z.2.2 i).1))), (1, .int (nI i)), (0, .ref (eA E 48))]) hx hy dX6_findsDepths_127 hl (k := 1) rfl (nI_add (wq + 1) 1) (by decide) rfl (fun ls hl => ?_)
                    refine lv_goto (tgt := 56) hx hy dX6_findsDepths_130 (by decide) ?_
                    exact ih_56 (wq + 1) c110 (by omega) (by omega) (DepJ.set hJ.1 ec105 ec110 (by show _ = max (pd z.2.2 i wq) (1 + dp z.2.2 (nthN (z.2.2 i) wq)); omega) rfl) _ _ _ hI (lv_sub hl [0, 2, 3, 4] rfl)
            exact lp90 (nlK (z.2.2 i).1 + 1) 0 c84 (by omega) (by omega) (DepJ.set hD ec77 ec84 (by show _ = if nlK (z.2.2 i).1 = 0 then 0 else 1; split <;> omega) (by show _ = if nlK (z.2.2 i).1 = 0 then 2 ^ i else 0; split <;> first | rfl | (exfalso; omega))) _ _ _ hI (lv_sub hl [0, 1, 2, 3] rfl)
          · have h83 : nlK ((z.2.2 i).1) = 0 := (nI_eq (a := nlK ((z.2.2 i).1)) (b := 0) (by omega) (by omega)).mp h83
            refine lv_iconst (v := nI 1) hx hy dX6_findsDepths_46 (by decide) ?_
            refine lv_iload_n hx hy dX6_findsDepths_47 rfl (lv_at hl 1 rfl) ?_
            refine lv_ishl hx hy dX6_findsDepths_48 ?_
            refine tI (shl_pow i (by omega)) ?_
            refine lv_goto (tgt := 53) hx hy dX6_findsDepths_49 (by decide) ?_
            refine aIsN F hI iX6_sources (i := i) (by omega) (by decide) dX6_findsDepths_53 (fun H locs hI => ?_)
            obtain ⟨c114, ec114⟩ : ∃ z9 : CF, z9 = up c77 51 i (nI (2 ^ i)) := ⟨_, rfl⟩
            have hI : Iv E s H locs (c114, u.2) := by rw [ec114]; exact hI
            have kf115 : c114 41 0 = nI z.1 := by rw [ec114, up_at, if_neg (by omega)]; exact kf78
            have kf116 : c114 41 (2 + 4 * i + 0) = nI (z.2.2 i).1 := by rw [ec114, up_at, if_neg (by omega)]; exact kf79
            have kf117 : c114 41 (2 + 4 * i + 1) = wM (z.2.2 i) 1 := by rw [ec114, up_at, if_neg (by omega)]; exact kf80
            have kf118 : c114 41 (2 + 4 * i + 2) = wM (z.2.2 i) 2 := by rw [ec114, up_at, if_neg (by omega)]; exact kf81
            have kf119 : c114 41 (2 + 4 * i + 3) = wM (z.2.2 i) 3 := by rw [ec114, up_at, if_neg (by omega)]; exact kf82
            refine lv_iconst (v := nI 1) hx hy dX6_findsDepths_54 (by decide) ?_
            refine lv_istore_n (lv' := [(3, .int (nI 1)), (2, .int (nI (nlK ((z.2.2 i).1)))), (1, .int (nI i)), (0, .ref (eA E 48))]) hx hy dX6_findsDepths_55 rfl hl (by decide) rfl (fun ls hl => ?_)
            have lp120 : ∀ (fu : Nat) (wq : Nat) (c5 : CF), (wq ≤ nlK (z.2.2 i).1) → (nlK (z.2.2 i).1 - wq < fu) → (DepJ z.2.2 i wq u.1 c5) →  ∀ (H : Heap) (locs : List Loc) (ls : Array Slot), Iv E s H locs ((c5, u.2)) → lv_has ls 5 [(3, .int (nI (wq + 1))), (2, .int (nI (nlK (z.2.2 i).1))), (1, .int (nI i)), (0, .ref (eA E 48))] → W p l e (Rm 1 22) s m args below meth co H locs 0 0 Q (F0 m 56 ls []) := by
              intro fu
              induction fu with
              | zero => intro wq c5 hw hf2 hJ; exact absurd hf2 (Nat.not_lt_zero _)
              | succ fu ih =>
                intro wq c5 hw hf2 hJ H locs ls hI hl
                have hA5 : RowM c5 41 0 z := hJ.1.row hA hz
                have ih_56 := ih
                refine lv_iload_n hx hy dX6_findsDepths_56 rfl (lv_at hl 0 rfl) ?_
                refine lv_iload_n hx hy dX6_findsDepths_57 rfl (lv_at hl 1 rfl) ?_
                refine lv_icmp_gt (tgt := 133) hx hy dX6_findsDepths_58 (by decide) (fun h121 => ?_) (fun h121 => ?_)
                · have h121 : nlK (z.2.2 i).1 < wq + 1 := (nI_ltI (a := nlK (z.2.2 i).1) (b := wq + 1) (by omega) (by omega)).mp h121
                  refine lv_iinc (v := nI (i + 1)) (lv' := [(1, .int (nI (i + 1))), (3, .int (nI (wq + 1))), (2, .int (nI (nlK (z.2.2 i).1))), (0, .ref (eA E 48))]) hx hy dX6_findsDepths_133 hl (k := 2) rfl (nI_add (i) 1) (by decide) rfl (fun ls hl => ?_)
                  refine lv_goto (tgt := 2) hx hy dX6_findsDepths_136 (by decide) ?_
                  exact ih_2 (i + 1) c5 (by omega) (by omega) (DepJ.done (by rw [show nlK (z.2.2 i).1 = wq from by omega]; exact hJ) hok) _ _ _ hI (lv_sub hl [0, 3] rfl)
                · have h121 : wq + 1 ≤ nlK (z.2.2 i).1 := Nat.le_of_not_lt (fun q9 => h121 ((nI_ltI (a := nlK (z.2.2 i).1) (b := wq + 1) (by omega) (by omega)).mpr q9))
                  have hnth := nth_lt (w := wq) hok (by omega)
                  have hda := hdl (nthN (z.2.2 i) wq) (by omega)
                  have hpw := hpl wq (by omega)
                  refine lv_aload_n hx hy dX6_findsDepths_61 rfl (lv_at hl 3 rfl) ?_
                  refine lv_iload_n hx hy dX6_findsDepths_62 rfl (lv_at hl 2 rfl) ?_
                  refine lv_iload_n hx hy dX6_findsDepths_63 rfl (lv_at hl 0 rfl) ?_
                  refine zI hI (xV F hI hl (kX6_of l E ((c5, u.2)) i (wq + 1) (by omega) (by omega)) M_X6_100 (rX6 F hI) rfl ⟨Nat.le_of_ble_eq_true rfl, Nat.le_of_ble_eq_true rfl⟩ ⟨Nat.zero_le _, Nat.zero_le _⟩ rfl (Nat.le_of_ble_eq_true rfl) dX6_findsDepths_64) (fun r123 v124 H locs hI hp122 => ?_)
                  subst hp122
                  refine tI (show _ = c5 41 (2 + 4 * i + (wq + 1)) from rfl) ?_
                  refine tI (RowM.nth hA5 hiz (by omega) (by omega)) ?_
                  refine lv_istore (lv' := [(4, .int (nI (nthN (z.2.2 i) wq))), (3, .int (nI (wq + 1))), (2, .int (nI (nlK (z.2.2 i).1))), (1, .int (nI i)), (0, .ref (eA E 48))]) hx hy dX6_findsDepths_67 hl (by decide) rfl (fun ls hl => ?_)
                  refine lv_aload_n hx hy dX6_findsDepths_69 rfl (lv_at hl 4 rfl) ?_
                  refine gX6_deep F hI L_X6_41 dX6_findsDepths_70 ?_
                  refine lv_iload_n hx hy dX6_findsDepths_73 rfl (lv_at hl 3 rfl) ?_
                  refine lv_aload_n hx hy dX6_findsDepths_74 rfl (lv_at hl 4 rfl) ?_
                  refine gX6_deep F hI L_X6_41 dX6_findsDepths_75 ?_
                  refine lv_iload hx hy dX6_findsDepths_78 (lv_at hl 0 rfl) ?_
                  refine aIlN F hI iX6_deep (i := nthN (z.2.2 i) wq) (by omega) (by decide) dX6_findsDepths_80 ?_
                  refine tI (show _ = c5 50 (nthN (z.2.2 i) wq) from rfl) ?_
                  refine tI (hJ.1.1 _ hnth).1 ?_
                  refine lv_iconst (v := nI 1) hx hy dX6_findsDepths_81 (by decide) ?_
                  refine lv_iadd hx hy dX6_findsDepths_82 ?_
                  refine tI (nI_add (dp z.2.2 (nthN (z.2.2 i) wq)) (1)) ?_
                  refine lv_aload_n hx hy dX6_findsDepths_83 rfl (lv_at hl 4 rfl) ?_
                  refine gX6_deep F hI L_X6_41 dX6_findsDepths_84 ?_
                  refine lv_iload_n hx hy dX6_findsDepths_87 rfl (lv_at hl 3 rfl) ?_
                  refine aIlN F hI iX6_deep (i := i) (by omega) (by decide) dX6_findsDepths_88 ?_
                  refine tI (show _ = c5 50 i from rfl) ?_
                  refine tI hJ.2.1 ?_
                  refine lv_icmp_le (tgt := 104) hx hy dX6_findsDepths_89 (by decide) (fun h125 => ?_) (fun h125 => ?_)
                  · have h125 : dp z.2.2 (nthN (z.2.2 i) wq) + 1 ≤ pd z.2.2 i wq := (nI_leI (a := dp z.2.2 (nthN (z.2.2 i) wq) + 1) (b := pd z.2.2 i wq) (by omega) (by omega)).mp h125
                    refine lv_aload_n hx hy dX6_findsDepths_104 rfl (lv_at hl 4 rfl) ?_
                    refine gX6_deep F hI L_X6_41 dX6_findsDepths_105 ?_
                    refine lv_iload_n hx hy dX6_findsDepths_108 rfl (lv_at hl 3 rfl) ?_
                    refine aIlN F hI iX6_deep (i := i) (by omega) (by decide) dX6_findsDepths_109 ?_
                    refine tI (show _ = c5 50 i from rfl) ?_
                    refine tI hJ.2.1 ?_
                    refine aIsN F hI iX6_deep (i := i) (by omega) (by decide) dX6_findsDepths_110 (fun H locs hI => ?_)
                    obtain ⟨c126, ec126⟩ : ∃ z9 : CF, z9 = up c5 50 i (nI (pd z.2.2 i wq)) := ⟨_, rfl⟩
                    have hI : Iv E s H locs (c126, u.2) := by rw [ec126]; exact hI
                    have kf127 : c126 41 (2 + 4 * i + (wq + 1)) = nI (nthN (z.2.2 i) wq) := by rw [ec126, up_at, if_neg (by omega)]; exact (RowM.nth hA5 hiz (by omega) (by omega))
                    have kf128 : c126 51 i = nI (po z.2.2 i wq) := by rw [ec126, up_at, if_neg (by omega)]; exact hJ.2.2
                    have kf129 : c126 50 (nthN (z.2.2 i) wq) = nI (dp z.2.2 (nthN (z.2.2 i) wq)) := by rw [ec126, up_at, if_neg (by omega)]; exact (hJ.1.1 _ hnth).1
                    have kf130 : c126 51 (nthN (z.2.2 i) wq) = nI (og z.2.2 (nthN (z.2.2 i) wq)) := by rw [ec126, up_at, if_neg (by omega)]; exact (hJ.1.1 _ hnth).2
                    refine lv_aload_n hx hy dX6_findsDepths_111 rfl (lv_at hl 4 rfl) ?_
                    refine gX6_sources F hI L_X6_44 dX6_findsDepths_112 ?_
                    refine lv_iload_n hx hy dX6_findsDepths_115 rfl (lv_at hl 3 rfl) ?_
                    refine lv_dup2_11 hx hy dX6_findsDepths_116 rfl rfl ?_
                    refine aIlN F hI iX6_sources (i := i) (by omega) (by decide) dX6_findsDepths_117 ?_
                    refine tI (show _ = c126 51 i from rfl) ?_
                    refine tI kf128 ?_
                    refine lv_aload_n hx hy dX6_findsDepths_118 rfl (lv_at hl 4 rfl) ?_
                    refine gX6_sources F hI L_X6_44 dX6_findsDepths_119 ?_
                    refine lv_iload hx hy dX6_findsDepths_122 (lv_at hl 0 rfl) ?_
                    refine aIlN F hI iX6_sources (i := nthN (z.2.2 i) wq) (by omega) (by decide) dX6_findsDepths_124 ?_
                    refine tI (show _ = c126 51 (nthN (z.2.2 i) wq) from rfl) ?_
                    refine tI kf130 ?_
                    refine lv_ior hx hy dX6_findsDepths_125 ?_
                    refine tI (nI_or (po z.2.2 i wq) (og z.2.2 (nthN (z.2.2 i) wq))) ?_
                    refine aIsN F hI iX6_sources (i := i) (by omega) (by decide) dX6_findsDepths_126 (fun H locs hI => ?_)
                    obtain ⟨c131, ec131⟩ : ∃ z9 : CF, z9 = up c126 51 i (nI ((po z.2.2 i wq) ||| (og z.2.2 (nthN (z.2.2 i) wq)))) := ⟨_, rfl⟩
                    have hI : Iv E s H locs (c131, u.2) := by rw [ec131]; exact hI
                    have kf132 : c131 41 (2 + 4 * i + (wq + 1)) = nI (nthN (z.2.2 i) wq) := by rw [ec131, up_at, if_neg (by omega)]; exact kf127
                    have kf133 : c131 50 (nthN (z.2.2 i) wq) = nI (dp z.2.2 (nthN (z.2.2 i) wq)) := by rw [ec131, up_at, if_neg (by omega)]; exact kf129
                    have kf134 : c131 51 (nthN (z.2.2 i) wq) = nI (og z.2.2 (nthN (z.2.2 i) wq)) := by rw [ec131, up_at, if_neg (by omega)]; exact kf130
                    refine lv_iinc (v := nI (wq + 1 + 1)) (lv' := [(3, .int (nI (wq + 1 + 1))), (4, .int (nI (nthN (z.2.2 i) wq))), (2, .int (nI (nlK (z.2.2 i).1))), (1, .int (nI i)), (0, .ref (eA E 48))]) hx hy dX6_findsDepths_127 hl (k := 1) rfl (nI_add (wq + 1) 1) (by decide) rfl (fun ls hl => ?_)
                    refine lv_goto (tgt := 56) hx hy dX6_findsDepths_130 (by decide) ?_
                    exact ih_56 (wq + 1) c131 (by omega) (by omega) (DepJ.set hJ.1 ec126 ec131 (by show _ = max (pd z.2.2 i wq) (1 + dp z.2.2 (nthN (z.2.2 i) wq)); omega) rfl) _ _ _ hI (lv_sub hl [0, 2, 3, 4] rfl)
                  · have h125 : pd z.2.2 i wq < dp z.2.2 (nthN (z.2.2 i) wq) + 1 := Nat.lt_of_not_le (fun q9 => h125 ((nI_leI (a := dp z.2.2 (nthN (z.2.2 i) wq) + 1) (b := pd z.2.2 i wq) (by omega) (by omega)).mpr q9))
                    refine lv_aload_n hx hy dX6_findsDepths_92 rfl (lv_at hl 4 rfl) ?_
                    refine gX6_deep F hI L_X6_41 dX6_findsDepths_93 ?_
                    refine lv_iload hx hy dX6_findsDepths_96 (lv_at hl 0 rfl) ?_
                    refine aIlN F hI iX6_deep (i := nthN (z.2.2 i) wq) (by omega) (by decide) dX6_findsDepths_98 ?_
                    refine tI (show _ = c5 50 (nthN (z.2.2 i) wq) from rfl) ?_
                    refine tI (hJ.1.1 _ hnth).1 ?_
                    refine lv_iconst (v := nI 1) hx hy dX6_findsDepths_99 (by decide) ?_
                    refine lv_iadd hx hy dX6_findsDepths_100 ?_
                    refine tI (nI_add (dp z.2.2 (nthN (z.2.2 i) wq)) (1)) ?_
                    refine lv_goto (tgt := 110) hx hy dX6_findsDepths_101 (by decide) ?_
                    refine aIsN F hI iX6_deep (i := i) (by omega) (by decide) dX6_findsDepths_110 (fun H locs hI => ?_)
                    obtain ⟨c135, ec135⟩ : ∃ z9 : CF, z9 = up c5 50 i (nI (dp z.2.2 (nthN (z.2.2 i) wq) + 1)) := ⟨_, rfl⟩
                    have hI : Iv E s H locs (c135, u.2) := by rw [ec135]; exact hI
                    have kf136 : c135 41 (2 + 4 * i + (wq + 1)) = nI (nthN (z.2.2 i) wq) := by rw [ec135, up_at, if_neg (by omega)]; exact (RowM.nth hA5 hiz (by omega) (by omega))
                    have kf137 : c135 51 i = nI (po z.2.2 i wq) := by rw [ec135, up_at, if_neg (by omega)]; exact hJ.2.2
                    have kf138 : c135 50 (nthN (z.2.2 i) wq) = nI (dp z.2.2 (nthN (z.2.2 i) wq)) := by rw [ec135, up_at, if_neg (by omega)]; exact (hJ.1.1 _ hnth).1
                    have kf139 : c135 51 (nthN (z.2.2 i) wq) = nI (og z.2.2 (nthN (z.2.2 i) wq)) := by rw [ec135, up_at, if_neg (by omega)]; exact (hJ.1.1 _ hnth).2
                    refine lv_aload_n hx hy dX6_findsDepths_111 rfl (lv_at hl 4 rfl) ?_
                    refine gX6_sources F hI L_X6_44 dX6_findsDepths_112 ?_
                    refine lv_iload_n hx hy dX6_findsDepths_115 rfl (lv_at hl 3 rfl) ?_
                    refine lv_dup2_11 hx hy dX6_findsDepths_116 rfl rfl ?_
                    refine aIlN F hI iX6_sources (i := i) (by omega) (by decide) dX6_findsDepths_117 ?_
                    refine tI (show _ = c135 51 i from rfl) ?_
                    refine tI kf137 ?_
                    refine lv_aload_n hx hy dX6_findsDepths_118 rfl (lv_at hl 4 rfl) ?_
                    refine gX6_sources F hI L_X6_44 dX6_findsDepths_119 ?_
                    refine lv_iload hx hy dX6_findsDepths_122 (lv_at hl 0 rfl) ?_
                    refine aIlN F hI iX6_sources (i := nthN (z.2.2 i) wq) (by omega) (by decide) dX6_findsDepths_124 ?_
                    refine tI (show _ = c135 51 (nthN (z.2.2 i) wq) from rfl) ?_
                    refine tI kf139 ?_
                    refine lv_ior hx hy dX6_findsDepths_125 ?_
                    refine tI (nI_or (po z.2.2 i wq) (og z.2.2 (nthN (z.2.2 i) wq))) ?_
                    refine aIsN F hI iX6_sources (i := i) (by omega) (by decide) dX6_findsDepths_126 (fun H locs hI => ?_)
                    obtain ⟨c140, ec140⟩ : ∃ z9 : CF, z9 = up c135 51 i (nI ((po z.2.2 i wq) ||| (og z.2.2 (nthN (z.2.2 i) wq)))) := ⟨_, rfl⟩
                    have hI : Iv E s H locs (c140, u.2) := by rw [ec140]; exact hI
                    have kf141 : c140 41 (2 + 4 * i + (wq + 1)) = nI (nthN (z.2.2 i) wq) := by rw [ec140, up_at, if_neg (by omega)]; exact kf136
                    have kf142 : c140 50 (nthN (z.2.2 i) wq) = nI (dp z.2.2 (nthN (z.2.2 i) wq)) := by rw [ec140, up_at, if_neg (by omega)]; exact kf138
                    have kf143 : c140 51 (nthN (z.2.2 i) wq) = nI (og z.2.2 (nthN (z.2.2 i) wq)) := by rw [ec140, up_at, if_neg (by omega)]; exact kf139
                    refine lv_iinc (v := nI (wq + 1 + 1)) (lv' := [(3, .int (nI (wq + 1 + 1))), (4, .int (nI (nthN (z.2.2 i) wq))), (2, .int (nI (nlK (z.2.2 i).1))), (1, .int (nI i)), (0, .ref (eA E 48))]) hx hy dX6_findsDepths_127 hl (k := 1) rfl (nI_add (wq + 1) 1) (by decide) rfl (fun ls hl => ?_)
                    refine lv_goto (tgt := 56) hx hy dX6_findsDepths_130 (by decide) ?_
                    exact ih_56 (wq + 1) c140 (by omega) (by omega) (DepJ.set hJ.1 ec135 ec140 (by show _ = max (pd z.2.2 i wq) (1 + dp z.2.2 (nthN (z.2.2 i) wq)); omega) rfl) _ _ _ hI (lv_sub hl [0, 2, 3, 4] rfl)
            exact lp120 (nlK (z.2.2 i).1 + 1) 0 c114 (by omega) (by omega) (DepJ.set hD ec77 ec114 (by show _ = if nlK (z.2.2 i).1 = 0 then 0 else 1; split <;> omega) (by show _ = if nlK (z.2.2 i).1 = 0 then 2 ^ i else 0; split <;> first | rfl | (exfalso; omega))) _ _ _ hI (lv_sub hl [0, 1, 2, 3] rfl)
  exact lp1 (z.1 + 1) 0 u.1 (by omega) (by omega) (DepI.start _ _) _ _ _ hI (lv_sub hl [0, 1] rfl)
set_option maxHeartbeats 400000 in
set_option maxRecDepth 100000 in
theorem kX6_bitsOf (l : Launch) (E : EV) (u : SS) (x : Nat) (hx0 : x < 2 ^ 31) : CT l yX6_bitsOf cX6_bitsOf 3 (some .int) (Rm 0 0) [.int (nI x)] E u (Q_i E (fun r _ => r = nI (pb x)) (fun (_ : Unit) => u)) := by
  refine mstart RX6 (by decide +kernel) rfl (Nat.le_of_ble_eq_true rfl) ?_
  intro p e s m args below meth co ls Q hQ F hI hl
  have hx := F.1
  have hy := F.2.1
  have hl : lv_has ls 3 [(0, .int (nI x))] := hl
  refine lv_iconst (v := nI 0) hx hy dX6_bitsOf_0 (by decide) ?_
  refine lv_istore_n (lv' := [(1, .int (nI 0)), (0, .int (nI x))]) hx hy dX6_bitsOf_1 rfl hl (by decide) rfl (fun ls hl => ?_)
  refine lv_iload_n hx hy dX6_bitsOf_2 rfl (lv_at hl 1 rfl) ?_
  refine lv_istore_n (lv' := [(2, .int (nI x)), (1, .int (nI 0)), (0, .int (nI x))]) hx hy dX6_bitsOf_3 rfl hl (by decide) rfl (fun ls hl => ?_)
  have lp1 : ∀ (fu : Nat) (y n : Nat), (y < 2 ^ 31) → (pb y < fu) → (n + pb y = pb x) →  ∀ (H : Heap) (locs : List Loc) (ls : Array Slot), Iv E s H locs (u) → lv_has ls 3 [(2, .int (nI y)), (1, .int (nI n)), (0, .int (nI x))] → W p l e (Rm 0 0) s m args below meth co H locs 0 0 Q (F0 m 4 ls []) := by
    intro fu
    induction fu with
    | zero => intro y n hy1 hf hn; exact absurd hf (Nat.not_lt_zero _)
    | succ fu ih =>
      intro y n hy1 hf hn H locs ls hI hl
      have ih_4 := ih
      refine lv_iload_n hx hy dX6_bitsOf_4 rfl (lv_at hl 0 rfl) ?_
      refine lv_if_eq (tgt := 20) hx hy dX6_bitsOf_5 (by decide) (fun h2 => ?_) (fun h2 => ?_)
      · have h2 : y = 0 := (nI_eq (a := y) (b := 0) (by omega) (by omega)).mp h2
        refine lv_iload_n hx hy dX6_bitsOf_20 rfl (lv_at hl 1 rfl) ?_
        exact rI hQ F (v := ()) hI dX6_bitsOf_21 (by rw [h2, pb_0] at hn; exact congrArg nI (by omega))
      · have h2 : y ≠ 0 := fun q9 => h2 ((nI_eq (a := y) (b := 0) (by omega) (by omega)).mpr q9)
        refine lv_iinc (v := nI (n + 1)) (lv' := [(1, .int (nI (n + 1))), (2, .int (nI y)), (0, .int (nI x))]) hx hy dX6_bitsOf_8 hl (k := 1) rfl (nI_add (n) 1) (by decide) rfl (fun ls hl => ?_)
        refine lv_iload_n hx hy dX6_bitsOf_11 rfl (lv_at hl 1 rfl) ?_
        refine lv_iload_n hx hy dX6_bitsOf_12 rfl (lv_at hl 1 rfl) ?_
        refine lv_iconst (v := nI 1) hx hy dX6_bitsOf_13 (by decide) ?_
        refine lv_isub hx hy dX6_bitsOf_14 ?_
        refine tI (pk_sub (a := y) (b := 1) (by omega)) ?_
        refine lv_iand hx hy dX6_bitsOf_15 ?_
        refine tI (nI_and (y) (y - 1)) ?_
        refine lv_istore_n (lv' := [(2, .int (nI (y &&& (y - 1)))), (1, .int (nI (n + 1))), (0, .int (nI x))]) hx hy dX6_bitsOf_16 rfl hl (by decide) rfl (fun ls hl => ?_)
        refine lv_goto (tgt := 4) hx hy dX6_bitsOf_17 (by decide) ?_
        exact ih_4 (y &&& (y - 1)) (n + 1) (Nat.lt_of_le_of_lt Nat.and_le_left hy1) (by have h9 := pb_step (x := y) (by omega) h2; omega) (by have h9 := pb_step (x := y) (by omega) h2; omega) _ _ _ hI (lv_sub hl [0, 1, 2] rfl)
  exact lp1 (pb x + 1) x 0 hx0 (by omega) (by omega) _ _ _ hI (lv_sub hl [0, 1, 2] rfl)
