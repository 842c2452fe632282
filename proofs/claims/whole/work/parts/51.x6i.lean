set_option maxHeartbeats 400000 in
set_option maxRecDepth 100000 in
theorem kX6_readsLine (l : Launch) (E : EV) (u : SS) {z : Tx} {a : Nat} (hT : TxS u.1 z a) {mm : Nat} (hm : u.1 40 4 = nI mm) (hm14 : mm ≤ 14) : CT l yX6_readsLine cX6_readsLine 4 (some .boolean) (Rm 5 116) [.ref (eA E 48)] E u (Q_i E (fun r c => LineM z a mm u.1 r c) (fun (c : CF) => (c, u.2))) := by
  refine mstart RX6 (by decide +kernel) rfl (Nat.le_of_ble_eq_true rfl) ?_
  intro p e s m args below meth co ls Q hQ F hI hl
  have hx := F.1
  have hy := F.2.1
  have hl : lv_has ls 4 [(0, .ref (eA E 48))] := hl
  have ht80 := hT.2.1
  have haz := hT.2.2.2.2
  refine lv_aload_n hx hy dX6_readsLine_0 rfl (lv_at hl 0 rfl) ?_
  refine zI hI (xV F hI hl (kX6_readsWord l E (u) hT) M_X6_169 (rX6 F hI) rfl ⟨Nat.le_of_ble_eq_true rfl, Nat.le_of_ble_eq_true rfl⟩ ⟨Nat.zero_le _, Nat.zero_le _⟩ rfl (Nat.le_of_ble_eq_true rfl) dX6_readsLine_1) (fun r2 v3 H locs hI hp1 => ?_)
  obtain ⟨hr5, hw4⟩ := hp1
  have hwi := wMx_in (z := z) haz 7
  rcases hkd : kd z a with _ | k
  · have hws := words_none hkd 7 (by decide)
    rw [hws.2] at hr5
    subst hr5
    rw [hws.1] at hwi
    refine tI (show _ = (-100000005 : Int32) from rfl) ?_
    have hT6 : TxS v3 z (a + 0) := by rw [hw4, hws.1]; exact hT.up3 (by omega)
    have hm2 : v3 40 4 = nI mm := by rw [hw4, up_at, if_neg (by omega)]; exact hm
    refine lv_istore_n (lv' := [(1, .int ((-100000005))), (0, .ref (eA E 48))]) hx hy dX6_readsLine_4 rfl hl (by decide) rfl (fun ls hl => ?_)
    refine lv_iload_n hx hy dX6_readsLine_5 rfl (lv_at hl 0 rfl) ?_
    refine zc F K_X6_85 dX6_readsLine_6 ?_
    refine lv_icmp_ne (tgt := 13) hx hy dX6_readsLine_8 (by decide) (fun q => absurd q (by decide)) (fun _ => ?_)
    refine lv_iconst (v := nI 0) hx hy dX6_readsLine_11 (by decide) ?_
    exact rZ hQ F (v := v3) rfl hI dX6_readsLine_12 (by have e9 : lin z a = (none, a) := (by unfold lin; rw [hkd]); rw [LineM, e9]; exact ⟨by rw [hw4]; exact (RdO.rf _).up (by omega), hT6.2.2.2.1, fun i hi => by rw [hw4, up_at, if_neg (by omega)], Or.inl ⟨rfl, rfl⟩⟩)
  · have hws := words_some hkd 7 (by decide)
    have hk7 := kd_lt hkd
    have hwm : wMx z a 7 = mt z a k := by rw [hws.1, if_pos hk7]
    rw [hws.2] at hr5
    rw [hwm] at hwi
    have hT7 : TxS v3 z (a + mt z a k) := by rw [hw4, hwm]; exact hT.up3 (by omega)
    have hm2 : v3 40 4 = nI mm := by rw [hw4, up_at, if_neg (by omega)]; exact hm
    by_cases hmt : mt z a k = lnW k
    · rw [if_pos ⟨hk7, hmt⟩] at hr5
      subst hr5
      refine tI (show _ = nI k from rfl) ?_
      refine lv_istore_n (lv' := [(1, .int (nI k)), (0, .ref (eA E 48))]) hx hy dX6_readsLine_4 rfl hl (by decide) rfl (fun ls hl => ?_)
      refine lv_iload_n hx hy dX6_readsLine_5 rfl (lv_at hl 0 rfl) ?_
      refine zc F K_X6_85 dX6_readsLine_6 ?_
      refine lv_icmp_ne (tgt := 13) hx hy dX6_readsLine_8 (by decide) (fun h8 => ?_) (fun q => absurd q (NON_ne hk7))
      refine lv_iload_n hx hy dX6_readsLine_13 rfl (lv_at hl 0 rfl) ?_
      refine lv_iconst (v := nI 4) hx hy dX6_readsLine_14 (by decide) ?_
      refine lv_icmp_ne (tgt := 22) hx hy dX6_readsLine_15 (by decide) (fun h9 => ?_) (fun h9 => ?_)
      · have h9 : k ≠ 4 := fun q9 => h9 ((nI_eq (a := k) (b := 4) (by omega) (by omega)).mpr q9)
        refine lv_iload_n hx hy dX6_readsLine_22 rfl (lv_at hl 0 rfl) ?_
        refine lv_iconst (v := nI 5) hx hy dX6_readsLine_23 (by decide) ?_
        refine lv_icmp_ne (tgt := 31) hx hy dX6_readsLine_24 (by decide) (fun h10 => ?_) (fun h10 => ?_)
        · have h10 : k ≠ 5 := fun q9 => h10 ((nI_eq (a := k) (b := 5) (by omega) (by omega)).mpr q9)
          refine lv_iconst (v := nI 2) hx hy dX6_readsLine_31 (by decide) ?_
          have hnp : npK k = 2 := by have h9 := npM k hk7; rw [h9]; (repeat' split) <;> omega
          have hn3 := npK_le k hk7
          have hL : lin z a = nums z k 4 1 (a + mt z a k) (k, 0, 0, 0) := (by unfold lin; rw [hkd]; exact if_pos hmt)
          refine tI (show _ = nI (npK k) from by rw [hnp]) ?_
          refine lv_istore_n (lv' := [(2, .int (nI (npK k))), (1, .int (nI k)), (0, .ref (eA E 48))]) hx hy dX6_readsLine_32 rfl hl (by decide) rfl (fun ls hl => ?_)
          refine lv_aload_n hx hy dX6_readsLine_33 rfl (lv_at hl 2 rfl) ?_
          refine gX6_read F hI L_X6_38 dX6_readsLine_34 ?_
          refine lv_iconst (v := nI 4) hx hy dX6_readsLine_37 (by decide) ?_
          refine lv_aload_n hx hy dX6_readsLine_38 rfl (lv_at hl 2 rfl) ?_
          refine gX6_readMany F hI L_X6_166 dX6_readsLine_39 ?_
          refine tI (show _ = v3 40 4 from rfl) ?_
          refine tI hm2 ?_
          refine lv_imul hx hy dX6_readsLine_42 ?_
          refine tI (pk_mul (4) (mm)) ?_
          refine lv_iload_n hx hy dX6_readsLine_43 rfl (lv_at hl 1 rfl) ?_
          refine aIsN F hI iX6_read (i := 4 * mm) (by omega) (by decide) dX6_readsLine_44 (fun H locs hI => ?_)
          obtain ⟨c11, ec11⟩ : ∃ z9 : CF, z9 = up v3 49 (4 * mm) (nI k) := ⟨_, rfl⟩
          have hI : Iv E s H locs (c11, u.2) := by rw [ec11]; exact hI
          have kf12 : c11 40 2 = nI z.1 := by rw [ec11, up_at, if_neg (by omega)]; exact hT7.1.1
          have kf13 : c11 40 3 = nI (a + mt z a k) := by rw [ec11, up_at, if_neg (by omega)]; exact hT7.2.2.2.1
          have kf14 : c11 40 4 = nI mm := by rw [ec11, up_at, if_neg (by omega)]; exact hm2
          refine lv_iconst (v := nI 1) hx hy dX6_readsLine_45 (by decide) ?_
          refine lv_istore_n (lv' := [(3, .int (nI 1)), (2, .int (nI (npK k))), (1, .int (nI k)), (0, .ref (eA E 48))]) hx hy dX6_readsLine_46 rfl hl (by decide) rfl (fun ls hl => ?_)
          refine lv_iload_n hx hy dX6_readsLine_47 rfl (lv_at hl 0 rfl) ?_
          refine lv_iconst (v := nI 4) hx hy dX6_readsLine_48 (by decide) ?_
          refine lv_icmp_ge (tgt := 73) hx hy dX6_readsLine_49 (by decide) (fun q => absurd q (by decide)) (fun _ => ?_)
          refine lv_aload_n hx hy dX6_readsLine_52 rfl (lv_at hl 3 rfl) ?_
          refine gX6_read F hI L_X6_38 dX6_readsLine_53 ?_
          refine lv_iconst (v := nI 4) hx hy dX6_readsLine_56 (by decide) ?_
          refine lv_aload_n hx hy dX6_readsLine_57 rfl (lv_at hl 3 rfl) ?_
          refine gX6_readMany F hI L_X6_166 dX6_readsLine_58 ?_
          refine tI (show _ = c11 40 4 from rfl) ?_
          refine tI kf14 ?_
          refine lv_imul hx hy dX6_readsLine_61 ?_
          refine tI (pk_mul (4) (mm)) ?_
          refine lv_iload_n hx hy dX6_readsLine_62 rfl (lv_at hl 0 rfl) ?_
          refine lv_iadd hx hy dX6_readsLine_63 ?_
          refine tI (nI_add (4 * mm) (1)) ?_
          refine zc F K_X6_85 dX6_readsLine_64 ?_
          refine aIsN F hI iX6_read (i := 4 * mm + 1) (by omega) (by decide) dX6_readsLine_66 (fun H locs hI => ?_)
          obtain ⟨c15, ec15⟩ : ∃ z9 : CF, z9 = up c11 49 (4 * mm + 1) ((-100000005)) := ⟨_, rfl⟩
          have hI : Iv E s H locs (c15, u.2) := by rw [ec15]; exact hI
          have kf16 : c15 40 2 = nI z.1 := by rw [ec15, up_at, if_neg (by omega)]; exact kf12
          have kf17 : c15 40 3 = nI (a + mt z a k) := by rw [ec15, up_at, if_neg (by omega)]; exact kf13
          have kf18 : c15 40 4 = nI mm := by rw [ec15, up_at, if_neg (by omega)]; exact kf14
          refine lv_iinc (v := nI 2) (lv' := [(3, .int (nI 2)), (2, .int (nI (npK k))), (1, .int (nI k)), (0, .ref (eA E 48))]) hx hy dX6_readsLine_67 hl (k := 0) rfl rfl (by decide) rfl (fun ls hl => ?_)
          refine lv_goto (tgt := 47) hx hy dX6_readsLine_70 (by decide) ?_
          refine lv_iload_n hx hy dX6_readsLine_47 rfl (lv_at hl 0 rfl) ?_
          refine lv_iconst (v := nI 4) hx hy dX6_readsLine_48 (by decide) ?_
          refine lv_icmp_ge (tgt := 73) hx hy dX6_readsLine_49 (by decide) (fun q => absurd q (by decide)) (fun _ => ?_)
          refine lv_aload_n hx hy dX6_readsLine_52 rfl (lv_at hl 3 rfl) ?_
          refine gX6_read F hI L_X6_38 dX6_readsLine_53 ?_
          refine lv_iconst (v := nI 4) hx hy dX6_readsLine_56 (by decide) ?_
          refine lv_aload_n hx hy dX6_readsLine_57 rfl (lv_at hl 3 rfl) ?_
          refine gX6_readMany F hI L_X6_166 dX6_readsLine_58 ?_
          refine tI (show _ = c15 40 4 from rfl) ?_
          refine tI kf18 ?_
          refine lv_imul hx hy dX6_readsLine_61 ?_
          refine tI (pk_mul (4) (mm)) ?_
          refine lv_iload_n hx hy dX6_readsLine_62 rfl (lv_at hl 0 rfl) ?_
          refine lv_iadd hx hy dX6_readsLine_63 ?_
          refine tI (nI_add (4 * mm) (2)) ?_
          refine zc F K_X6_85 dX6_readsLine_64 ?_
          refine aIsN F hI iX6_read (i := 4 * mm + 2) (by omega) (by decide) dX6_readsLine_66 (fun H locs hI => ?_)
          obtain ⟨c19, ec19⟩ : ∃ z9 : CF, z9 = up c15 49 (4 * mm + 2) ((-100000005)) := ⟨_, rfl⟩
          have hI : Iv E s H locs (c19, u.2) := by rw [ec19]; exact hI
          have kf20 : c19 40 2 = nI z.1 := by rw [ec19, up_at, if_neg (by omega)]; exact kf16
          have kf21 : c19 40 3 = nI (a + mt z a k) := by rw [ec19, up_at, if_neg (by omega)]; exact kf17
          have kf22 : c19 40 4 = nI mm := by rw [ec19, up_at, if_neg (by omega)]; exact kf18
          refine lv_iinc (v := nI 3) (lv' := [(3, .int (nI 3)), (2, .int (nI (npK k))), (1, .int (nI k)), (0, .ref (eA E 48))]) hx hy dX6_readsLine_67 hl (k := 0) rfl rfl (by decide) rfl (fun ls hl => ?_)
          refine lv_goto (tgt := 47) hx hy dX6_readsLine_70 (by decide) ?_
          refine lv_iload_n hx hy dX6_readsLine_47 rfl (lv_at hl 0 rfl) ?_
          refine lv_iconst (v := nI 4) hx hy dX6_readsLine_48 (by decide) ?_
          refine lv_icmp_ge (tgt := 73) hx hy dX6_readsLine_49 (by decide) (fun q => absurd q (by decide)) (fun _ => ?_)
          refine lv_aload_n hx hy dX6_readsLine_52 rfl (lv_at hl 3 rfl) ?_
          refine gX6_read F hI L_X6_38 dX6_readsLine_53 ?_
          refine lv_iconst (v := nI 4) hx hy dX6_readsLine_56 (by decide) ?_
          refine lv_aload_n hx hy dX6_readsLine_57 rfl (lv_at hl 3 rfl) ?_
          refine gX6_readMany F hI L_X6_166 dX6_readsLine_58 ?_
          refine tI (show _ = c19 40 4 from rfl) ?_
          refine tI kf22 ?_
          refine lv_imul hx hy dX6_readsLine_61 ?_
          refine tI (pk_mul (4) (mm)) ?_
          refine lv_iload_n hx hy dX6_readsLine_62 rfl (lv_at hl 0 rfl) ?_
          refine lv_iadd hx hy dX6_readsLine_63 ?_
          refine tI (nI_add (4 * mm) (3)) ?_
          refine zc F K_X6_85 dX6_readsLine_64 ?_
          refine aIsN F hI iX6_read (i := 4 * mm + 3) (by omega) (by decide) dX6_readsLine_66 (fun H locs hI => ?_)
          obtain ⟨c23, ec23⟩ : ∃ z9 : CF, z9 = up c19 49 (4 * mm + 3) ((-100000005)) := ⟨_, rfl⟩
          have hI : Iv E s H locs (c23, u.2) := by rw [ec23]; exact hI
          have kf24 : c23 40 2 = nI z.1 := by rw [ec23, up_at, if_neg (by omega)]; exact kf20
          have kf25 : c23 40 3 = nI (a + mt z a k) := by rw [ec23, up_at, if_neg (by omega)]; exact kf21
          have kf26 : c23 40 4 = nI mm := by rw [ec23, up_at, if_neg (by omega)]; exact kf22
          refine lv_iinc (v := nI 4) (lv' := [(3, .int (nI 4)), (2, .int (nI (npK k))), (1, .int (nI k)), (0, .ref (eA E 48))]) hx hy dX6_readsLine_67 hl (k := 0) rfl rfl (by decide) rfl (fun ls hl => ?_)
          refine lv_goto (tgt := 47) hx hy dX6_readsLine_70 (by decide) ?_
          refine lv_iload_n hx hy dX6_readsLine_47 rfl (lv_at hl 0 rfl) ?_
          refine lv_iconst (v := nI 4) hx hy dX6_readsLine_48 (by decide) ?_
          refine lv_icmp_ge (tgt := 73) hx hy dX6_readsLine_49 (by decide) (fun _ => ?_) (fun q => absurd q (by decide))
          refine lv_iconst (v := nI 1) hx hy dX6_readsLine_73 (by decide) ?_
          refine lv_istore_n (lv' := [(3, .int (nI 1)), (2, .int (nI (npK k))), (1, .int (nI k)), (0, .ref (eA E 48))]) hx hy dX6_readsLine_74 rfl hl (by decide) rfl (fun ls hl => ?_)
          have lp27 : ∀ (fu : Nat) (wv b : Nat) (ln : Ln) (c : CF), (wv ≤ npK k) → (npK k + 1 - wv < fu) → (b ≤ z.1) → (RdO u.1 c) → (c 40 3 = nI b) → (c 40 4 = nI mm) → (∀ i, i < 4 * mm → c 49 i = u.1 49 i) → (LnW c mm k wv ln) → (nums z k 4 1 (a + mt z a k) (k, 0, 0, 0) = nums z k (4 - wv) (wv + 1) b ln) →  ∀ (H : Heap) (locs : List Loc) (ls : Array Slot), Iv E s H locs ((c, u.2)) → lv_has ls 4 [(3, .int (nI (wv + 1))), (2, .int (nI (npK k))), (1, .int (nI k)), (0, .ref (eA E 48))] → W p l e (Rm 5 116) s m args below meth co H locs 0 0 Q (F0 m 75 ls []) := by
            intro fu
            induction fu with
            | zero => intro wv b ln c hw_ hf hbz hO h3 h4 h49l hLn hM; exact absurd hf (Nat.not_lt_zero _)
            | succ fu ih =>
              intro wv b ln c hw_ hf hbz hO h3 h4 h49l hLn hM H locs ls hI hl
              have hTc : TxS c z b := hO.tx hT h3 hbz
              have ih_75 := ih
              refine lv_iload_n hx hy dX6_readsLine_75 rfl (lv_at hl 0 rfl) ?_
              refine lv_iload_n hx hy dX6_readsLine_76 rfl (lv_at hl 1 rfl) ?_
              refine lv_icmp_gt (tgt := 97) hx hy dX6_readsLine_77 (by decide) (fun h28 => ?_) (fun h28 => ?_)
              · have h28 : npK k < wv + 1 := (nI_ltI (a := npK k) (b := wv + 1) (by omega) (by omega)).mp h28
                refine lv_aload_n hx hy dX6_readsLine_97 rfl (lv_at hl 3 rfl) ?_
                refine lv_dup hx hy dX6_readsLine_98 rfl ?_
                refine gX6_readMany F hI L_X6_166 dX6_readsLine_99 ?_
                refine tI (show _ = c 40 4 from rfl) ?_
                refine tI h4 ?_
                refine lv_iconst (v := nI 1) hx hy dX6_readsLine_102 (by decide) ?_
                refine lv_iadd hx hy dX6_readsLine_103 ?_
                refine tI (nI_add (mm) (1)) ?_
                refine pX6_readMany F hI L_X6_166 dX6_readsLine_104 (fun H locs hI => ?_)
                obtain ⟨c29, ec29⟩ : ∃ z9 : CF, z9 = up c 40 4 (nI (mm + 1)) := ⟨_, rfl⟩
                have hI : Iv E s H locs (c29, u.2) := by rw [ec29]; exact hI
                have kf30 : c29 40 2 = nI z.1 := by rw [ec29, up_at, if_neg (by omega)]; exact hTc.1.1
                have kf31 : c29 40 3 = nI (b) := by rw [ec29, up_at, if_neg (by omega)]; exact hTc.2.2.2.1
                refine lv_iconst (v := nI 1) hx hy dX6_readsLine_107 (by decide) ?_
                exact rZ hQ F (v := c29) rfl hI dX6_readsLine_108 (by have e9 : lin z a = (some ln, b) := hL.trans (hM.trans (nums_end _ (by omega))); have e8 : wv = npK k := (by omega); rw [e8] at hLn; have h7 := hLn.done (by omega); rw [LineM, e9]; exact ⟨by rw [ec29]; exact hO.up (by omega), by rw [ec29, up_at, if_neg (by omega)]; exact h3, fun i hi => by rw [ec29, up_at, if_neg (by omega)]; exact h49l i hi, Or.inr ⟨ln, rfl, rfl, by rw [ec29]; exact up_s _ _ _ _, h7.keep (fun i _ _ => by rw [ec29, up_at, if_neg (by omega)])⟩⟩)
              · have h28 : wv + 1 ≤ npK k := Nat.le_of_not_lt (fun q9 => h28 ((nI_ltI (a := npK k) (b := wv + 1) (by omega) (by omega)).mpr q9))
                refine lv_aload_n hx hy dX6_readsLine_80 rfl (lv_at hl 3 rfl) ?_
                refine lv_iload_n hx hy dX6_readsLine_81 rfl (lv_at hl 2 rfl) ?_
                refine lv_iload_n hx hy dX6_readsLine_82 rfl (lv_at hl 0 rfl) ?_
                refine zI hI (xV F hI hl (kX6_readsPart l E ((c, u.2)) hTc h4 (by omega) k (wv + 1) (by omega) (by omega) (by omega) (by omega)) M_X6_173 (rX6 F hI) rfl ⟨Nat.le_of_ble_eq_true rfl, Nat.le_of_ble_eq_true rfl⟩ ⟨Nat.zero_le _, Nat.zero_le _⟩ rfl (Nat.le_of_ble_eq_true rfl) dX6_readsLine_83) (fun r33 v34 H locs hI hp32 => ?_)
                obtain ⟨hPo, hPs, hP4, hPk, hPr⟩ := hp32
                rcases hPr with ⟨hn9, hr9⟩ | ⟨nv, hn9, hr9, h49⟩
                · subst hr9
                  refine tI (show _ = nI 0 from rfl) ?_
                  refine lv_if_ne (tgt := 91) hx hy dX6_readsLine_86 (by decide) (fun q => absurd q (by decide)) (fun _ => ?_)
                  refine lv_iconst (v := nI 0) hx hy dX6_readsLine_89 (by decide) ?_
                  exact rZ hQ F (v := v34) rfl hI dX6_readsLine_90 (by have e9 : lin z a = (none, _) := hL.trans (hM.trans (nums_fail (by omega) (by omega) (Prod.ext hn9 rfl))); rw [LineM, e9]; exact ⟨hO.tr hPo, hPs, fun i hi => (hPk i (by omega)).trans (h49l i hi), Or.inl ⟨rfl, rfl⟩⟩)
                · subst hr9
                  refine tI (show _ = nI 1 from rfl) ?_
                  refine lv_if_ne (tgt := 91) hx hy dX6_readsLine_86 (by decide) (fun _ => ?_) (fun q => absurd q (by decide))
                  refine lv_iinc (v := nI (wv + 1 + 1)) (lv' := [(3, .int (nI (wv + 1 + 1))), (2, .int (nI (npK k))), (1, .int (nI k)), (0, .ref (eA E 48))]) hx hy dX6_readsLine_91 hl (k := 0) rfl (nI_add (wv + 1) 1) (by decide) rfl (fun ls hl => ?_)
                  refine lv_goto (tgt := 75) hx hy dX6_readsLine_94 (by decide) ?_
                  exact ih_75 (wv + 1) (bn z (loK k (wv + 1)) (hiK k (wv + 1)) b).2 (setN ln (wv + 1) nv) v34 (by omega) (by omega) (by rcases bn_cases (z := z) (lo := loK k (wv + 1)) (mo := hiK k (wv + 1)) (a := b) hbz (loK_hi _ _).2.1 with ⟨_, _, h9⟩ | ⟨_, _, _, _, _, h9⟩ <;> exact h9) (hO.tr hPo) hPs (hP4.trans h4) (fun i hi => (hPk i (by omega)).trans (h49l i hi)) (hLn.next (by omega) hPk h49) (hM.trans (nums_step (by omega) (by omega) (Prod.ext hn9 rfl))) _ _ _ hI (lv_sub hl [0, 1, 2, 3] rfl)
          exact lp27 5 0 (a + mt z a k) (k, 0, 0, 0) c23 (by omega) (by omega) (by omega) (by rw [ec23, ec19, ec15, ec11]; exact ((((RdO.up (by rw [hw4]; exact (RdO.rf _).up (by omega)) (by omega)).up (by omega)).up (by omega)).up (by omega))) (by rw [ec23, up_at, if_neg (by omega), ec19, up_at, if_neg (by omega), ec15, up_at, if_neg (by omega), ec11, up_at, if_neg (by omega)]; exact hT7.2.2.2.1) (by rw [ec23, up_at, if_neg (by omega), ec19, up_at, if_neg (by omega), ec15, up_at, if_neg (by omega), ec11, up_at, if_neg (by omega)]; exact hm2) (fun i hi => by rw [ec23, up_at, if_neg (by omega), ec19, up_at, if_neg (by omega), ec15, up_at, if_neg (by omega), ec11, up_at, if_neg (by omega), hw4, up_at, if_neg (by omega)]) ⟨by rw [ec23, up_at, if_neg (by omega), ec19, up_at, if_neg (by omega), ec15, up_at, if_neg (by omega), ec11]; exact up_s _ _ _ _, rfl, fun v hv => absurd hv (Nat.not_lt_zero v), fun v _ hv => by rcases (show v = 0 ∨ v = 1 ∨ v = 2 by omega) with rfl | rfl | rfl; all_goals rw [ec23, up_at, ec19, up_at, ec15, up_at]; simp⟩ rfl _ _ _ hI (lv_sub hl [0, 1, 2, 3] rfl)
        · have h10 : k = 5 := (nI_eq (a := k) (b := 5) (by omega) (by omega)).mp h10
          refine lv_iconst (v := nI 1) hx hy dX6_readsLine_27 (by decide) ?_
          refine lv_goto (tgt := 32) hx hy dX6_readsLine_28 (by decide) ?_
          have hnp : npK k = 1 := by have h9 := npM k hk7; rw [h9]; (repeat' split) <;> omega
          have hn3 := npK_le k hk7
          have hL : lin z a = nums z k 4 1 (a + mt z a k) (k, 0, 0, 0) := (by unfold lin; rw [hkd]; exact if_pos hmt)
          refine tI (show _ = nI (npK k) from by rw [hnp]) ?_
          refine lv_istore_n (lv' := [(2, .int (nI (npK k))), (1, .int (nI k)), (0, .ref (eA E 48))]) hx hy dX6_readsLine_32 rfl hl (by decide) rfl (fun ls hl => ?_)
          refine lv_aload_n hx hy dX6_readsLine_33 rfl (lv_at hl 2 rfl) ?_
          refine gX6_read F hI L_X6_38 dX6_readsLine_34 ?_
          refine lv_iconst (v := nI 4) hx hy dX6_readsLine_37 (by decide) ?_
          refine lv_aload_n hx hy dX6_readsLine_38 rfl (lv_at hl 2 rfl) ?_
          refine gX6_readMany F hI L_X6_166 dX6_readsLine_39 ?_
          refine tI (show _ = v3 40 4 from rfl) ?_
          refine tI hm2 ?_
          refine lv_imul hx hy dX6_readsLine_42 ?_
          refine tI (pk_mul (4) (mm)) ?_
          refine lv_iload_n hx hy dX6_readsLine_43 rfl (lv_at hl 1 rfl) ?_
          refine aIsN F hI iX6_read (i := 4 * mm) (by omega) (by decide) dX6_readsLine_44 (fun H locs hI => ?_)
          obtain ⟨c35, ec35⟩ : ∃ z9 : CF, z9 = up v3 49 (4 * mm) (nI k) := ⟨_, rfl⟩
          have hI : Iv E s H locs (c35, u.2) := by rw [ec35]; exact hI
          have kf36 : c35 40 2 = nI z.1 := by rw [ec35, up_at, if_neg (by omega)]; exact hT7.1.1
          have kf37 : c35 40 3 = nI (a + mt z a k) := by rw [ec35, up_at, if_neg (by omega)]; exact hT7.2.2.2.1
          have kf38 : c35 40 4 = nI mm := by rw [ec35, up_at, if_neg (by omega)]; exact hm2
          refine lv_iconst (v := nI 1) hx hy dX6_readsLine_45 (by decide) ?_
          refine lv_istore_n (lv' := [(3, .int (nI 1)), (2, .int (nI (npK k))), (1, .int (nI k)), (0, .ref (eA E 48))]) hx hy dX6_readsLine_46 rfl hl (by decide) rfl (fun ls hl => ?_)
          refine lv_iload_n hx hy dX6_readsLine_47 rfl (lv_at hl 0 rfl) ?_
          refine lv_iconst (v := nI 4) hx hy dX6_readsLine_48 (by decide) ?_
          refine lv_icmp_ge (tgt := 73) hx hy dX6_readsLine_49 (by decide) (fun q => absurd q (by decide)) (fun _ => ?_)
          refine lv_aload_n hx hy dX6_readsLine_52 rfl (lv_at hl 3 rfl) ?_
          refine gX6_read F hI L_X6_38 dX6_readsLine_53 ?_
          refine lv_iconst (v := nI 4) hx hy dX6_readsLine_56 (by decide) ?_
          refine lv_aload_n hx hy dX6_readsLine_57 rfl (lv_at hl 3 rfl) ?_
          refine gX6_readMany F hI L_X6_166 dX6_readsLine_58 ?_
          refine tI (show _ = c35 40 4 from rfl) ?_
          refine tI kf38 ?_
          refine lv_imul hx hy dX6_readsLine_61 ?_
          refine tI (pk_mul (4) (mm)) ?_
          refine lv_iload_n hx hy dX6_readsLine_62 rfl (lv_at hl 0 rfl) ?_
          refine lv_iadd hx hy dX6_readsLine_63 ?_
          refine tI (nI_add (4 * mm) (1)) ?_
          refine zc F K_X6_85 dX6_readsLine_64 ?_
          refine aIsN F hI iX6_read (i := 4 * mm + 1) (by omega) (by decide) dX6_readsLine_66 (fun H locs hI => ?_)
          obtain ⟨c39, ec39⟩ : ∃ z9 : CF, z9 = up c35 49 (4 * mm + 1) ((-100000005)) := ⟨_, rfl⟩
          have hI : Iv E s H locs (c39, u.2) := by rw [ec39]; exact hI
          have kf40 : c39 40 2 = nI z.1 := by rw [ec39, up_at, if_neg (by omega)]; exact kf36
          have kf41 : c39 40 3 = nI (a + mt z a k) := by rw [ec39, up_at, if_neg (by omega)]; exact kf37
          have kf42 : c39 40 4 = nI mm := by rw [ec39, up_at, if_neg (by omega)]; exact kf38
          refine lv_iinc (v := nI 2) (lv' := [(3, .int (nI 2)), (2, .int (nI (npK k))), (1, .int (nI k)), (0, .ref (eA E 48))]) hx hy dX6_readsLine_67 hl (k := 0) rfl rfl (by decide) rfl (fun ls hl => ?_)
          refine lv_goto (tgt := 47) hx hy dX6_readsLine_70 (by decide) ?_
          refine lv_iload_n hx hy dX6_readsLine_47 rfl (lv_at hl 0 rfl) ?_
          refine lv_iconst (v := nI 4) hx hy dX6_readsLine_48 (by decide) ?_
          refine lv_icmp_ge (tgt := 73) hx hy dX6_readsLine_49 (by decide) (fun q => absurd q (by decide)) (fun _ => ?_)
          refine lv_aload_n hx hy dX6_readsLine_52 rfl (lv_at hl 3 rfl) ?_
          refine gX6_read F hI L_X6_38 dX6_readsLine_53 ?_
          refine lv_iconst (v := nI 4) hx hy dX6_readsLine_56 (by decide) ?_
          refine lv_aload_n hx hy dX6_readsLine_57 rfl (lv_at hl 3 rfl) ?_
          refine gX6_readMany F hI L_X6_166 dX6_readsLine_58 ?_
          refine tI (show _ = c39 40 4 from rfl) ?_
          refine tI kf42 ?_
          refine lv_imul hx hy dX6_readsLine_61 ?_
          refine tI (pk_mul (4) (mm)) ?_
          refine lv_iload_n hx hy dX6_readsLine_62 rfl (lv_at hl 0 rfl) ?_
          refine lv_iadd hx hy dX6_readsLine_63 ?_
          refine tI (nI_add (4 * mm) (2)) ?_
          refine zc F K_X6_85 dX6_readsLine_64 ?_
          refine aIsN F hI iX6_read (i := 4 * mm + 2) (by omega) (by decide) dX6_readsLine_66 (fun H locs hI => ?_)
          obtain ⟨c43, ec43⟩ : ∃ z9 : CF, z9 = up c39 49 (4 * mm + 2) ((-100000005)) := ⟨_, rfl⟩
          have hI : Iv E s H locs (c43, u.2) := by rw [ec43]; exact hI
          have kf44 : c43 40 2 = nI z.1 := by rw [ec43, up_at, if_neg (by omega)]; exact kf40
          have kf45 : c43 40 3 = nI (a + mt z a k) := by rw [ec43, up_at, if_neg (by omega)]; exact kf41
          have kf46 : c43 40 4 = nI mm := by rw [ec43, up_at, if_neg (by omega)]; exact kf42
          refine lv_iinc (v := nI 3) (lv' := [(3, .int (nI 3)), (2, .int (nI (npK k))), (1, .int (nI k)), (0, .ref (eA E 48))]) hx hy dX6_readsLine_67 hl (k := 0) rfl rfl (by decide) rfl (fun ls hl => ?_)
          refine lv_goto (tgt := 47) hx hy dX6_readsLine_70 (by decide) ?_
          refine lv_iload_n hx hy dX6_readsLine_47 rfl (lv_at hl 0 rfl) ?_
          refine lv_iconst (v := nI 4) hx hy dX6_readsLine_48 (by decide) ?_
          refine lv_icmp_ge (tgt := 73) hx hy dX6_readsLine_49 (by decide) (fun q => absurd q (by decide)) (fun _ => ?_)
          refine lv_aload_n hx hy dX6_readsLine_52 rfl (lv_at hl 3 rfl) ?_
          refine gX6_read F hI L_X6_38 dX6_readsLine_53 ?_
          refine lv_iconst (v := nI 4) hx hy dX6_readsLine_56 (by decide) ?_
          refine lv_aload_n hx hy dX6_readsLine_57 rfl (lv_at hl 3 rfl) ?_
          refine gX6_readMany F hI L_X6_166 dX6_readsLine_58 ?_
          refine tI (show _ = c43 40 4 from rfl) ?_
          refine tI kf46 ?_
          refine lv_imul hx hy dX6_readsLine_61 ?_
          refine tI (pk_mul (4) (mm)) ?_
          refine lv_iload_n hx hy dX6_readsLine_62 rfl (lv_at hl 0 rfl) ?_
          refine lv_iadd hx hy dX6_readsLine_63 ?_
          refine tI (nI_add (4 * mm) (3)) ?_
          refine zc F K_X6_85 dX6_readsLine_64 ?_
          refine aIsN F hI iX6_read (i := 4 * mm + 3) (by omega) (by decide) dX6_readsLine_66 (fun H locs hI => ?_)
          obtain ⟨c47, ec47⟩ : ∃ z9 : CF, z9 = up c43 49 (4 * mm + 3) ((-100000005)) := ⟨_, rfl⟩
          have hI : Iv E s H locs (c47, u.2) := by rw [ec47]; exact hI
          have kf48 : c47 40 2 = nI z.1 := by rw [ec47, up_at, if_neg (by omega)]; exact kf44
          have kf49 : c47 40 3 = nI (a + mt z a k) := by rw [ec47, up_at, if_neg (by omega)]; exact kf45
          have kf50 : c47 40 4 = nI mm := by rw [ec47, up_at, if_neg (by omega)]; exact kf46
          refine lv_iinc (v := nI 4) (lv' := [(3, .int (nI 4)), (2, .int (nI (npK k))), (1, .int (nI k)), (0, .ref (eA E 48))]) hx hy dX6_readsLine_67 hl (k := 0) rfl rfl (by decide) rfl (fun ls hl => ?_)
          refine lv_goto (tgt := 47) hx hy dX6_readsLine_70 (by decide) ?_
          refine lv_iload_n hx hy dX6_readsLine_47 rfl (lv_at hl 0 rfl) ?_
          refine lv_iconst (v := nI 4) hx hy dX6_readsLine_48 (by decide) ?_
          refine lv_icmp_ge (tgt := 73) hx hy dX6_readsLine_49 (by decide) (fun _ => ?_) (fun q => absurd q (by decide))
          refine lv_iconst (v := nI 1) hx hy dX6_readsLine_73 (by decide) ?_
          refine lv_istore_n (lv' := [(3, .int (nI 1)), (2, .int (nI (npK k))), (1, .int (nI k)), (0, .ref (eA E 48))]) hx hy dX6_readsLine_74 rfl hl (by decide) rfl (fun ls hl => ?_)
          have lp51 : ∀ (fu : Nat) (wv b : Nat) (ln : Ln) (c : CF), (wv ≤ npK k) → (npK k + 1 - wv < fu) → (b ≤ z.1) → (RdO u.1 c) → (c 40 3 = nI b) → (c 40 4 = nI mm) → (∀ i, i < 4 * mm → c 49 i = u.1 49 i) → (LnW c mm k wv ln) → (nums z k 4 1 (a + mt z a k) (k, 0, 0, 0) = nums z k (4 - wv) (wv + 1) b ln) →  ∀ (H : Heap) (locs : List Loc) (ls : Array Slot), Iv E s H locs ((c, u.2)) → lv_has ls 4 [(3, .int (nI (wv + 1))), (2, .int (nI (npK k))), (1, .int (nI k)), (0, .ref (eA E 48))] → W p l e (Rm 5 116) s m args below meth co H locs 0 0 Q (F0 m 75 ls []) := by
            intro fu
            induction fu with
            | zero => intro wv b ln c hw_ hf hbz hO h3 h4 h49l hLn hM; exact absurd hf (Nat.not_lt_zero _)
            | succ fu ih =>
              intro wv b ln c hw_ hf hbz hO h3 h4 h49l hLn hM H locs ls hI hl
              have hTc : TxS c z b := hO.tx hT h3 hbz
              have ih_75 := ih
              refine lv_iload_n hx hy dX6_readsLine_75 rfl (lv_at hl 0 rfl) ?_
              refine lv_iload_n hx hy dX6_readsLine_76 rfl (lv_at hl 1 rfl) ?_
              refine lv_icmp_gt (tgt := 97) hx hy dX6_readsLine_77 (by decide) (fun h52 => ?_) (fun h52 => ?_)
              · have h52 : npK k < wv + 1 := (nI_ltI (a := npK k) (b := wv + 1) (by omega) (by omega)).mp h52
                refine lv_aload_n hx hy dX6_readsLine_97 rfl (lv_at hl 3 rfl) ?_
                refine lv_dup hx hy dX6_readsLine_98 rfl ?_
                refine gX6_readMany F hI L_X6_166 dX6_readsLine_99 ?_
                refine tI (show _ = c 40 4 from rfl) ?_
                refine tI h4 ?_
                refine lv_iconst (v := nI 1) hx hy dX6_readsLine_102 (by decide) ?_
                refine lv_iadd hx hy dX6_readsLine_103 ?_
                refine tI (nI_add (mm) (1)) ?_
                refine pX6_readMany F hI L_X6_166 dX6_readsLine_104 (fun H locs hI => ?_)
                obtain ⟨c53, ec53⟩ : ∃ z9 : CF, z9 = up c 40 4 (nI (mm + 1)) := ⟨_, rfl⟩
                have hI : Iv E s H locs (c53, u.2) := by rw [ec53]; exact hI
                have kf54 : c53 40 2 = nI z.1 := by rw [ec53, up_at, if_neg (by omega)]; exact hTc.1.1
                have kf55 : c53 40 3 = nI (b) := by rw [ec53, up_at, if_neg (by omega)]; exact hTc.2.2.2.1
                refine lv_iconst (v := nI 1) hx hy dX6_readsLine_107 (by decide) ?_
                exact rZ hQ F (v := c53) rfl hI dX6_readsLine_108 (by have e9 : lin z a = (some ln, b) := hL.trans (hM.trans (nums_end _ (by omega))); have e8 : wv = npK k := (by omega); rw [e8] at hLn; have h7 := hLn.done (by omega); rw [LineM, e9]; exact ⟨by rw [ec53]; exact hO.up (by omega), by rw [ec53, up_at, if_neg (by omega)]; exact h3, fun i hi => by rw [ec53, up_at, if_neg (by omega)]; exact h49l i hi, Or.inr ⟨ln, rfl, rfl, by rw [ec53]; exact up_s _ _ _ _, h7.keep (fun i _ _ => by rw [ec53, up_at, if_neg (by omega)])⟩⟩)
              · have h52 : wv + 1 ≤ npK k := Nat.le_of_not_lt (fun q9 => h52 ((nI_ltI (a := npK k) (b := wv + 1) (by omega) (by omega)).mpr q9))
                refine lv_aload_n hx hy dX6_readsLine_80 rfl (lv_at hl 3 rfl) ?_
                refine lv_iload_n hx hy dX6_readsLine_81 rfl (lv_at hl 2 rfl) ?_
                refine lv_iload_n hx hy dX6_readsLine_82 rfl (lv_at hl 0 rfl) ?_
                refine zI hI (xV F hI hl (kX6_readsPart l E ((c, u.2)) hTc h4 (by omega) k (wv + 1) (by omega) (by omega) (by omega) (by omega)) M_X6_173 (rX6 F hI) rfl ⟨Nat.le_of_ble_eq_true rfl, Nat.le_of_ble_eq_true rfl⟩ ⟨Nat.zero_le _, Nat.zero_le _⟩ rfl (Nat.le_of_ble_eq_true rfl) dX6_readsLine_83) (fun r57 v58 H locs hI hp56 => ?_)
                obtain ⟨hPo, hPs, hP4, hPk, hPr⟩ := hp56
                rcases hPr with ⟨hn9, hr9⟩ | ⟨nv, hn9, hr9, h49⟩
                · subst hr9
                  refine tI (show _ = nI 0 from rfl) ?_
                  refine lv_if_ne (tgt := 91) hx hy dX6_readsLine_86 (by decide) (fun q => absurd q (by decide)) (fun _ => ?_)
                  refine lv_iconst (v := nI 0) hx hy dX6_readsLine_89 (by decide) ?_
                  exact rZ hQ F (v := v58) rfl hI dX6_readsLine_90 (by have e9 : lin z a = (none, _) := hL.trans (hM.trans (nums_fail (by omega) (by omega) (Prod.ext hn9 rfl))); rw [LineM, e9]; exact ⟨hO.tr hPo, hPs, fun i hi => (hPk i (by omega)).trans (h49l i hi), Or.inl ⟨rfl, rfl⟩⟩)
                · subst hr9
                  refine tI (show _ = nI 1 from rfl) ?_
                  refine lv_if_ne (tgt := 91) hx hy dX6_readsLine_86 (by decide) (fun _ => ?_) (fun q => absurd q (by decide))
                  refine lv_iinc (v := nI (wv + 1 + 1)) (lv' := [(3, .int (nI (wv + 1 + 1))), (2, .int (nI (npK k))), (1, .int (nI k)), (0, .ref (eA E 48))]) hx hy dX6_readsLine_91 hl (k := 0) rfl (nI_add (wv + 1) 1) (by decide) rfl (fun ls hl => ?_)
                  refine lv_goto (tgt := 75) hx hy dX6_readsLine_94 (by decide) ?_
                  exact ih_75 (wv + 1) (bn z (loK k (wv + 1)) (hiK k (wv + 1)) b).2 (setN ln (wv + 1) nv) v58 (by omega) (by omega) (by rcases bn_cases (z := z) (lo := loK k (wv + 1)) (mo := hiK k (wv + 1)) (a := b) hbz (loK_hi _ _).2.1 with ⟨_, _, h9⟩ | ⟨_, _, _, _, _, h9⟩ <;> exact h9) (hO.tr hPo) hPs (hP4.trans h4) (fun i hi => (hPk i (by omega)).trans (h49l i hi)) (hLn.next (by omega) hPk h49) (hM.trans (nums_step (by omega) (by omega) (Prod.ext hn9 rfl))) _ _ _ hI (lv_sub hl [0, 1, 2, 3] rfl)
          exact lp51 5 0 (a + mt z a k) (k, 0, 0, 0) c47 (by omega) (by omega) (by omega) (by rw [ec47, ec43, ec39, ec35]; exact ((((RdO.up (by rw [hw4]; exact (RdO.rf _).up (by omega)) (by omega)).up (by omega)).up (by omega)).up (by omega))) (by rw [ec47, up_at, if_neg (by omega), ec43, up_at, if_neg (by omega), ec39, up_at, if_neg (by omega), ec35, up_at, if_neg (by omega)]; exact hT7.2.2.2.1) (by rw [ec47, up_at, if_neg (by omega), ec43, up_at, if_neg (by omega), ec39, up_at, if_neg (by omega), ec35, up_at, if_neg (by omega)]; exact hm2) (fun i hi => by rw [ec47, up_at, if_neg (by omega), ec43, up_at, if_neg (by omega), ec39, up_at, if_neg (by omega), ec35, up_at, if_neg (by omega), hw4, up_at, if_neg (by omega)]) ⟨by rw [ec47, up_at, if_neg (by omega), ec43, up_at, if_neg (by omega), ec39, up_at, if_neg (by omega), ec35]; exact up_s _ _ _ _, rfl, fun v hv => absurd hv (Nat.not_lt_zero v), fun v _ hv => by rcases (show v = 0 ∨ v = 1 ∨ v = 2 by omega) with rfl | rfl | rfl; all_goals rw [ec47, up_at, ec43, up_at, ec39, up_at]; simp⟩ rfl _ _ _ hI (lv_sub hl [0, 1, 2, 3] rfl)
      · have h9 : k = 4 := (nI_eq (a := k) (b := 4) (by omega) (by omega)).mp h9
        refine lv_iconst (v := nI 3) hx hy dX6_readsLine_18 (by decide) ?_
        refine lv_goto (tgt := 32) hx hy dX6_readsLine_19 (by decide) ?_
        have hnp : npK k = 3 := by have h9 := npM k hk7; rw [h9]; (repeat' split) <;> omega
        have hn3 := npK_le k hk7
        have hL : lin z a = nums z k 4 1 (a + mt z a k) (k, 0, 0, 0) := (by unfold lin; rw [hkd]; exact if_pos hmt)
        refine tI (show _ = nI (npK k) from by rw [hnp]) ?_
        refine lv_istore_n (lv' := [(2, .int (nI (npK k))), (1, .int (nI k)), (0, .ref (eA E 48))]) hx hy dX6_readsLine_32 rfl hl (by decide) rfl (fun ls hl => ?_)
        refine lv_aload_n hx hy dX6_readsLine_33 rfl (lv_at hl 2 rfl) ?_
        refine gX6_read F hI L_X6_38 dX6_readsLine_34 ?_
        refine lv_iconst (v := nI 4) hx hy dX6_readsLine_37 (by decide) ?_
        refine lv_aload_n hx hy dX6_readsLine_38 rfl (lv_at hl 2 rfl) ?_
        refine gX6_readMany F hI L_X6_166 dX6_readsLine_39 ?_
        refine tI (show _ = v3 40 4 from rfl) ?_
        refine tI hm2 ?_
        refine lv_imul hx hy dX6_readsLine_42 ?_
        refine tI (pk_mul (4) (mm)) ?_
        refine lv_iload_n hx hy dX6_readsLine_43 rfl (lv_at hl 1 rfl) ?_
        refine aIsN F hI iX6_read (i := 4 * mm) (by omega) (by decide) dX6_readsLine_44 (fun H locs hI => ?_)
        obtain ⟨c59, ec59⟩ : ∃ z9 : CF, z9 = up v3 49 (4 * mm) (nI k) := ⟨_, rfl⟩
        have hI : Iv E s H locs (c59, u.2) := by rw [ec59]; exact hI
        have kf60 : c59 40 2 = nI z.1 := by rw [ec59, up_at, if_neg (by omega)]; exact hT7.1.1
        have kf61 : c59 40 3 = nI (a + mt z a k) := by rw [ec59, up_at, if_neg (by omega)]; exact hT7.2.2.2.1
        have kf62 : c59 40 4 = nI mm := by rw [ec59, up_at, if_neg (by omega)]; exact hm2
        refine lv_iconst (v := nI 1) hx hy dX6_readsLine_45 (by decide) ?_
        refine lv_istore_n (lv' := [(3, .int (nI 1)), (2, .int (nI (npK k))), (1, .int (nI k)), (0, .ref (eA E 48))]) hx hy dX6_readsLine_46 rfl hl (by decide) rfl (fun ls hl => ?_)
        refine lv_iload_n hx hy dX6_readsLine_47 rfl (lv_at hl 0 rfl) ?_
        refine lv_iconst (v := nI 4) hx hy dX6_readsLine_48 (by decide) ?_
        refine lv_icmp_ge (tgt := 73) hx hy dX6_readsLine_49 (by decide) (fun q => absurd q (by decide)) (fun _ => ?_)
        refine lv_aload_n hx hy dX6_readsLine_52 rfl (lv_at hl 3 rfl) ?_
        refine gX6_read F hI L_X6_38 dX6_readsLine_53 ?_
        refine lv_iconst (v := nI 4) hx hy dX6_readsLine_56 (by decide) ?_
        refine lv_aload_n hx hy dX6_readsLine_57 rfl (lv_at hl 3 rfl) ?_
        refine gX6_readMany F hI L_X6_166 dX6_readsLine_58 ?_
        refine tI (show _ = c59 40 4 from rfl) ?_
        refine tI kf62 ?_
        refine lv_imul hx hy dX6_readsLine_61 ?_
        refine tI (pk_mul (4) (mm)) ?_
        refine lv_iload_n hx hy dX6_readsLine_62 rfl (lv_at hl 0 rfl) ?_
        refine lv_iadd hx hy dX6_readsLine_63 ?_
        refine tI (nI_add (4 * mm) (1)) ?_
        refine zc F K_X6_85 dX6_readsLine_64 ?_
        refine aIsN F hI iX6_read (i := 4 * mm + 1) (by omega) (by decide) dX6_readsLine_66 (fun H locs hI => ?_)
        obtain ⟨c63, ec63⟩ : ∃ z9 : CF, z9 = up c59 49 (4 * mm + 1) ((-100000005)) := ⟨_, rfl⟩
        have hI : Iv E s H locs (c63, u.2) := by rw [ec63]; exact hI
        have kf64 : c63 40 2 = nI z.1 := by rw [ec63, up_at, if_neg (by omega)]; exact kf60
        have kf65 : c63 40 3 = nI (a + mt z a k) := by rw [ec63, up_at, if_neg (by omega)]; exact kf61
        have kf66 : c63 40 4 = nI mm := by rw [ec63, up_at, if_neg (by omega)]; exact kf62
        refine lv_iinc (v := nI 2) (lv' := [(3, .int (nI 2)), (2, .int (nI (npK k))), (1, .int (nI k)), (0, .ref (eA E 48))]) hx hy dX6_readsLine_67 hl (k := 0) rfl rfl (by decide) rfl (fun ls hl => ?_)
        refine lv_goto (tgt := 47) hx hy dX6_readsLine_70 (by decide) ?_
        refine lv_iload_n hx hy dX6_readsLine_47 rfl (lv_at hl 0 rfl) ?_
        refine lv_iconst (v := nI 4) hx hy dX6_readsLine_48 (by decide) ?_
        refine lv_icmp_ge (tgt := 73) hx hy dX6_readsLine_49 (by decide) (fun q => absurd q (by decide)) (fun _ => ?_)
        refine lv_aload_n hx hy dX6_readsLine_52 rfl (lv_at hl 3 rfl) ?_
        refine gX6_read F hI L_X6_38 dX6_readsLine_53 ?_
        refine lv_iconst (v := nI 4) hx hy dX6_readsLine_56 (by decide) ?_
        refine lv_aload_n hx hy dX6_readsLine_57 rfl (lv_at hl 3 rfl) ?_
        refine gX6_readMany F hI L_X6_166 dX6_readsLine_58 ?_
        refine tI (show _ = c63 40 4 from rfl) ?_
        refine tI kf66 ?_
        refine lv_imul hx hy dX6_readsLine_61 ?_
        refine tI (pk_mul (4) (mm)) ?_
        refine lv_iload_n hx hy dX6_readsLine_62 rfl (lv_at hl 0 rfl) ?_
        refine lv_iadd hx hy dX6_readsLine_63 ?_
        refine tI (nI_add (4 * mm) (2)) ?_
        refine zc F K_X6_85 dX6_readsLine_64 ?_
        refine aIsN F hI iX6_read (i := 4 * mm + 2) (by omega) (by decide) dX6_readsLine_66 (fun H locs hI => ?_)
        obtain ⟨c67, ec67⟩ : ∃ z9 : CF, z9 = up c63 49 (4 * mm + 2) ((-100000005)) := ⟨_, rfl⟩
        have hI : Iv E s H locs (c67, u.2) := by rw [ec67]; exact hI
        have kf68 : c67 40 2 = nI z.1 := by rw [ec67, up_at, if_neg (by omega)]; exact kf64
        have kf69 : c67 40 3 = nI (a + mt z a k) := by rw [ec67, up_at, if_neg (by omega)]; exact kf65
        have kf70 : c67 40 4 = nI mm := by rw [ec67, up_at, if_neg (by omega)]; exact kf66
        refine lv_iinc (v := nI 3) (lv' := [(3, .int (nI 3)), (2, .int (nI (npK k))), (1, .int (nI k)), (0, .ref (eA E 48))]) hx hy dX6_readsLine_67 hl (k := 0) rfl rfl (by decide) rfl (fun ls hl => ?_)
        refine lv_goto (tgt := 47) hx hy dX6_readsLine_70 (by decide) ?_
        refine lv_iload_n hx hy dX6_readsLine_47 rfl (lv_at hl 0 rfl) ?_
        refine lv_iconst (v := nI 4) hx hy dX6_readsLine_48 (by decide) ?_
        refine lv_icmp_ge (tgt := 73) hx hy dX6_readsLine_49 (by decide) (fun q => absurd q (by decide)) (fun _ => ?_)
        refine lv_aload_n hx hy dX6_readsLine_52 rfl (lv_at hl 3 rfl) ?_
        refine gX6_read F hI L_X6_38 dX6_readsLine_53 ?_
        refine lv_iconst (v := nI 4) hx hy dX6_readsLine_56 (by decide) ?_
        refine lv_aload_n hx hy dX6_readsLine_57 rfl (lv_at hl 3 rfl) ?_
        refine gX6_readMany F hI L_X6_166 dX6_readsLine_58 ?_
        refine tI (show _ = c67 40 4 from rfl) ?_
        refine tI kf70 ?_
        refine lv_imul hx hy dX6_readsLine_61 ?_
        refine tI (pk_mul (4) (mm)) ?_
        refine lv_iload_n hx hy dX6_readsLine_62 rfl (lv_at hl 0 rfl) ?_
        refine lv_iadd hx hy dX6_readsLine_63 ?_
        refine tI (nI_add (4 * mm) (3)) ?_
        refine zc F K_X6_85 dX6_readsLine_64 ?_
        refine aIsN F hI iX6_read (i := 4 * mm + 3) (by omega) (by decide) dX6_readsLine_66 (fun H locs hI => ?_)
        obtain ⟨c71, ec71⟩ : ∃ z9 : CF, z9 = up c67 49 (4 * mm + 3) ((-100000005)) := ⟨_, rfl⟩
        have hI : Iv E s H locs (c71, u.2) := by rw [ec71]; exact hI
        have kf72 : c71 40 2 = nI z.1 := by rw [ec71, up_at, if_neg (by omega)]; exact kf68
        have kf73 : c71 40 3 = nI (a + mt z a k) := by rw [ec71, up_at, if_neg (by omega)]; exact kf69
        have kf74 : c71 40 4 = nI mm := by rw [ec71, up_at, if_neg (by omega)]; exact kf70
        refine lv_iinc (v := nI 4) (lv' := [(3, .int (nI 4)), (2, .int (nI (npK k))), (1, .int (nI k)), (0, .ref (eA E 48))]) hx hy dX6_readsLine_67 hl (k := 0) rfl rfl (by decide) rfl (fun ls hl => ?_)
        refine lv_goto (tgt := 47) hx hy dX6_readsLine_70 (by decide) ?_
        refine lv_iload_n hx hy dX6_readsLine_47 rfl (lv_at hl 0 rfl) ?_
        refine lv_iconst (v := nI 4) hx hy dX6_readsLine_48 (by decide) ?_
        refine lv_icmp_ge (tgt := 73) hx hy dX6_readsLine_49 (by decide) (fun _ => ?_) (fun q => absurd q (by decide))
        refine lv_iconst (v := nI 1) hx hy dX6_readsLine_73 (by decide) ?_
        refine lv_istore_n (lv' := [(3, .int (nI 1)), (2, .int (nI (npK k))), (1, .int (nI k)), (0, .ref (eA E 48))]) hx hy dX6_readsLine_74 rfl hl (by decide) rfl (fun ls hl => ?_)
        have lp75 : ∀ (fu : Nat) (wv b : Nat) (ln : Ln) (c : CF), (wv ≤ npK k) → (npK k + 1 - wv < fu) → (b ≤ z.1) → (RdO u.1 c) → (c 40 3 = nI b) → (c 40 4 = nI mm) → (∀ i, i < 4 * mm → c 49 i = u.1 49 i) → (LnW c mm k wv ln) → (nums z k 4 1 (a + mt z a k) (k, 0, 0, 0) = nums z k (4 - wv) (wv + 1) b ln) →  ∀ (H : Heap) (locs : List Loc) (ls : Array Slot), Iv E s H locs ((c, u.2)) → lv_has ls 4 [(3, .int (nI (wv + 1))), (2, .int (nI (npK k))), (1, .int (nI k)), (0, .ref (eA E 48))] → W p l e (Rm 5 116) s m args below meth co H locs 0 0 Q (F0 m 75 ls []) := by
          intro fu
          induction fu with
          | zero => intro wv b ln c hw_ hf hbz hO h3 h4 h49l hLn hM; exact absurd hf (Nat.not_lt_zero _)
          | succ fu ih =>
            intro wv b ln c hw_ hf hbz hO h3 h4 h49l hLn hM H locs ls hI hl
            have hTc : TxS c z b := hO.tx hT h3 hbz
            have ih_75 := ih
            refine lv_iload_n hx hy dX6_readsLine_75 rfl (lv_at hl 0 rfl) ?_
            refine lv_iload_n hx hy dX6_readsLine_76 rfl (lv_at hl 1 rfl) ?_
            refine lv_icmp_gt (tgt := 97) hx hy dX6_readsLine_77 (by decide) (fun h76 => ?_) (fun h76 => ?_)
            · have h76 : npK k < wv + 1 := (nI_ltI (a := npK k) (b := wv + 1) (by omega) (by omega)).mp h76
              refine lv_aload_n hx hy dX6_readsLine_97 rfl (lv_at hl 3 rfl) ?_
              refine lv_dup hx hy dX6_readsLine_98 rfl ?_
              refine gX6_readMany F hI L_X6_166 dX6_readsLine_99 ?_
              refine tI (show _ = c 40 4 from rfl) ?_
              refine tI h4 ?_
              refine lv_iconst (v := nI 1) hx hy dX6_readsLine_102 (by decide) ?_
              refine lv_iadd hx hy dX6_readsLine_103 ?_
              refine tI (nI_add (mm) (1)) ?_
              refine pX6_readMany F hI L_X6_166 dX6_readsLine_104 (fun H locs hI => ?_)
              obtain ⟨c77, ec77⟩ : ∃ z9 : CF, z9 = up c 40 4 (nI (mm + 1)) := ⟨_, rfl⟩
              have hI : Iv E s H locs (c77, u.2) := by rw [ec77]; exact hI
              have kf78 : c77 40 2 = nI z.1 := by rw [ec77, up_at, if_neg (by omega)]; exact hTc.1.1
              have kf79 : c77 40 3 = nI (b) := by rw [ec77, up_at, if_neg (by omega)]; exact hTc.2.2.2.1
              refine lv_iconst (v := nI 1) hx hy dX6_readsLine_107 (by decide) ?_
              exact rZ hQ F (v := c77) rfl hI dX6_readsLine_108 (by have e9 : lin z a = (some ln, b) := hL.trans (hM.trans (nums_end _ (by omega))); have e8 : wv = npK k := (by omega); rw [e8] at hLn; have h7 := hLn.done (by omega); rw [LineM, e9]; exact ⟨by rw [ec77]; exact hO.up (by omega), by rw [ec77, up_at, if_neg (by omega)]; exact h3, fun i hi => by rw [ec77, up_at, if_neg (by omega)]; exact h49l i hi, Or.inr ⟨ln, rfl, rfl, by rw [ec77]; exact up_s _ _ _ _, h7.keep (fun i _ _ => by rw [ec77, up_at, if_neg (by omega)])⟩⟩)
            · have h76 : wv + 1 ≤ npK k := Nat.le_of_not_lt (fun q9 => h76 ((nI_ltI (a := npK k) (b := wv + 1) (by omega) (by omega)).mpr q9))
              refine lv_aload_n hx hy dX6_readsLine_80 rfl (lv_at hl 3 rfl) ?_
              refine lv_iload_n hx hy dX6_readsLine_81 rfl (lv_at hl 2 rfl) ?_
              refine lv_iload_n hx hy dX6_readsLine_82 rfl (lv_at hl 0 rfl) ?_
              refine zI hI (xV F hI hl (kX6_readsPart l E ((c, u.2)) hTc h4 (by omega) k (wv + 1) (by omega) (by omega) (by omega) (by omega)) M_X6_173 (rX6 F hI) rfl ⟨Nat.le_of_ble_eq_true rfl, Nat.le_of_ble_eq_true rfl⟩ ⟨Nat.zero_le _, Nat.zero_le _⟩ rfl (Nat.le_of_ble_eq_true rfl) dX6_readsLine_83) (fun r81 v82 H locs hI hp80 => ?_)
              obtain ⟨hPo, hPs, hP4, hPk, hPr⟩ := hp80
              rcases hPr with ⟨hn9, hr9⟩ | ⟨nv, hn9, hr9, h49⟩
              · subst hr9
                refine tI (show _ = nI 0 from rfl) ?_
                refine lv_if_ne (tgt := 91) hx hy dX6_readsLine_86 (by decide) (fun q => absurd q (by decide)) (fun _ => ?_)
                refine lv_iconst (v := nI 0) hx hy dX6_readsLine_89 (by decide) ?_
                exact rZ hQ F (v := v82) rfl hI dX6_readsLine_90 (by have e9 : lin z a = (none, _) := hL.trans (hM.trans (nums_fail (by omega) (by omega) (Prod.ext hn9 rfl))); rw [LineM, e9]; exact ⟨hO.tr hPo, hPs, fun i hi => (hPk i (by omega)).trans (h49l i hi), Or.inl ⟨rfl, rfl⟩⟩)
              · subst hr9
                refine tI (show _ = nI 1 from rfl) ?_
                refine lv_if_ne (tgt := 91) hx hy dX6_readsLine_86 (by decide) (fun _ => ?_) (fun q => absurd q (by decide))
                refine lv_iinc (v := nI (wv + 1 + 1)) (lv' := [(3, .int (nI (wv + 1 + 1))), (2, .int (nI (npK k))), (1, .int (nI k)), (0, .ref (eA E 48))]) hx hy dX6_readsLine_91 hl (k := 0) rfl (nI_add (wv + 1) 1) (by decide) rfl (fun ls hl => ?_)
                refine lv_goto (tgt := 75) hx hy dX6_readsLine_94 (by decide) ?_
                exact ih_75 (wv + 1) (bn z (loK k (wv + 1)) (hiK k (wv + 1)) b).2 (setN ln (wv + 1) nv) v82 (by omega) (by omega) (by rcases bn_cases (z := z) (lo := loK k (wv + 1)) (mo := hiK k (wv + 1)) (a := b) hbz (loK_hi _ _).2.1 with ⟨_, _, h9⟩ | ⟨_, _, _, _, _, h9⟩ <;> exact h9) (hO.tr hPo) hPs (hP4.trans h4) (fun i hi => (hPk i (by omega)).trans (h49l i hi)) (hLn.next (by omega) hPk h49) (hM.trans (nums_step (by omega) (by omega) (Prod.ext hn9 rfl))) _ _ _ hI (lv_sub hl [0, 1, 2, 3] rfl)
        exact lp75 5 0 (a + mt z a k) (k, 0, 0, 0) c71 (by omega) (by omega) (by omega) (by rw [ec71, ec67, ec63, ec59]; exact ((((RdO.up (by rw [hw4]; exact (RdO.rf _).up (by omega)) (by omega)).up (by omega)).up (by omega)).up (by omega))) (by rw [ec71, up_at, if_neg (by omega), ec67, up_at, if_neg (by omega), ec63, up_at, if_neg (by omega), ec59, up_at, if_neg (by omega)]; exact hT7.2.2.2.1) (by rw [ec71, up_at, if_neg (by omega), ec67, up_at, if_neg (by omega), ec63, up_at, if_neg (by omega), ec59, up_at, if_neg (by omega)]; exact hm2) (fun i hi => by rw [ec71, up_at, if_neg (by omega), ec67, up_at, if_neg (by omega), ec63, up_at, if_neg (by omega), ec59, up_at, if_neg (by omega), hw4, up_at, if_neg (by omega)]) ⟨by rw [ec71, up_at, if_neg (by omega), ec67, up_at, if_neg (by omega), ec63, up_at, if_neg (by omega), ec59]; exact up_s _ _ _ _, rfl, fun v hv => absurd hv (Nat.not_lt_zero v), fun v _ hv => by rcases (show v = 0 ∨ v = 1 ∨ v = 2 by omega) with rfl | rfl | rfl; all_goals rw [ec71, up_at, ec67, up_at, ec63, up_at]; simp⟩ rfl _ _ _ hI (lv_sub hl [0, 1, 2, 3] rfl)
    · rw [if_neg (fun q9 => hmt q9.2)] at hr5
      subst hr5
      refine tI (show _ = (-100000005 : Int32) from rfl) ?_
      refine lv_istore_n (lv' := [(1, .int ((-100000005))), (0, .ref (eA E 48))]) hx hy dX6_readsLine_4 rfl hl (by decide) rfl (fun ls hl => ?_)
      refine lv_iload_n hx hy dX6_readsLine_5 rfl (lv_at hl 0 rfl) ?_
      refine zc F K_X6_85 dX6_readsLine_6 ?_
      refine lv_icmp_ne (tgt := 13) hx hy dX6_readsLine_8 (by decide) (fun q => absurd q (by decide)) (fun _ => ?_)
      refine lv_iconst (v := nI 0) hx hy dX6_readsLine_11 (by decide) ?_
      exact rZ hQ F (v := v3) rfl hI dX6_readsLine_12 (by have e9 : lin z a = (none, a + mt z a k) := (by unfold lin; rw [hkd]; exact if_neg hmt); rw [LineM, e9]; exact ⟨by rw [hw4]; exact (RdO.rf _).up (by omega), hT7.2.2.2.1, fun i hi => by rw [hw4, up_at, if_neg (by omega)], Or.inl ⟨rfl, rfl⟩⟩)
