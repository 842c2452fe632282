set_option maxHeartbeats 400000 in
set_option maxRecDepth 100000 in
theorem kX1_readLine (l : Launch) (E : EV) (u : SS) {z : Tx} {a : Nat} (hT : TxC u.1 z) (hp : u.1 0 4 = nI a) (ha : a ≤ z.1) {mm : Nat} {f : Nat → Ln} (hR : RepL 2 u.1 mm f) (hm : mm < 16) : CT l yX1_readLine cX1_readLine 6 (some .boolean) (Rm 6 128) [.ref (eA E 3), .ref (eA E (10 + 3 * 2))] E u (Q_i E (fun r c => LineP z a mm f u.1 r c) (fun (c : CF) => (c, u.2))) := by
  refine mstart RX1 (by decide +kernel) rfl (Nat.le_of_ble_eq_true rfl) ?_
  intro p e s m args below meth co ls Q hQ F hI hl
  have hx := F.1
  have hy := F.2.1
  have hl : lv_has ls 6 [(0, .ref (eA E 3)), (1, .ref (eA E (10 + 3 * 2)))] := hl
  have hT2 := hT.2.1
  refine lv_aload_n hx hy dX1_readLine_0 rfl (lv_at hl 0 rfl) ?_
  refine zI hI (xV F hI hl (kX1_kindHere l E (u) hT hp (by omega)) M_X1_33 (rX1 F hI) rfl ⟨Nat.le_of_ble_eq_true rfl, Nat.le_of_ble_eq_true rfl⟩ ⟨Nat.zero_le _, Nat.zero_le _⟩ rfl (Nat.le_of_ble_eq_true rfl) dX1_readLine_1) (fun r2 v3 H locs hI hp1 => ?_)
  rcases hk4 : kd z a with _ | k
  · rw [hk4] at hp1
    subst hp1
    refine tI (show _ = (-1 : Int32) from rfl) ?_
    refine lv_istore_n (lv' := [(2, .int ((-1))), (0, .ref (eA E 3)), (1, .ref (eA E (10 + 3 * 2)))]) hx hy dX1_readLine_4 rfl hl (by decide) rfl (fun ls hl => ?_)
    refine lv_iload_n hx hy dX1_readLine_5 rfl (lv_at hl 0 rfl) ?_
    refine lv_iconst (v := (-1)) hx hy dX1_readLine_6 (by decide) ?_
    refine lv_icmp_eq (tgt := 21) hx hy dX1_readLine_7 (by decide) (fun _ => ?_) (fun q => absurd q (by decide))
    refine lv_iconst (v := nI 0) hx hy dX1_readLine_21 (by decide) ?_
    exact rZ hQ F (v := u.1) rfl hI dX1_readLine_22 (by have e9 : lin z a = (none, a) := (by unfold lin; rw [hk4]); rw [LineP, e9]; exact ⟨OthT.rf _, hp, Or.inl ⟨rfl, rfl⟩⟩)
  · rw [hk4] at hp1
    subst hp1
    refine tI (show _ = nI k from rfl) ?_
    have hk7 := kd_lt hk4
    refine lv_istore_n (lv' := [(2, .int (nI k)), (0, .ref (eA E 3)), (1, .ref (eA E (10 + 3 * 2)))]) hx hy dX1_readLine_4 rfl hl (by decide) rfl (fun ls hl => ?_)
    refine lv_iload_n hx hy dX1_readLine_5 rfl (lv_at hl 0 rfl) ?_
    refine lv_iconst (v := (-1)) hx hy dX1_readLine_6 (by decide) ?_
    refine lv_icmp_eq (tgt := 21) hx hy dX1_readLine_7 (by decide) (fun q => absurd q (m1_ne (by omega))) (fun h5 => ?_)
    refine lv_aload_n hx hy dX1_readLine_10 rfl (lv_at hl 1 rfl) ?_
    refine lv_iload_n hx hy dX1_readLine_11 rfl (lv_at hl 0 rfl) ?_
    refine zQ hI (xS F hI hl (kX1_wordOfKind l E (u) k (by omega)) M_X1_37 rfl ⟨Nat.le_of_ble_eq_true rfl, Nat.le_of_ble_eq_true rfl⟩ ⟨Nat.zero_le _, Nat.zero_le _⟩ rfl (Nat.le_of_ble_eq_true rfl) dX1_readLine_12) (fun r7 v8 H locs hI hp6 => ?_)
    subst hp6
    refine tV (show va_rf (some (eS E (10 + k))) = .ref (eS E (10 + k)) from rfl) ?_
    refine zI hI (xV F hI hl (kX1_takeWord l E (u) hT hp (by omega) k (by omega)) M_X1_41 (rX1 F hI) rfl ⟨Nat.le_of_ble_eq_true rfl, Nat.le_of_ble_eq_true rfl⟩ ⟨Nat.zero_le _, Nat.zero_le _⟩ rfl (Nat.le_of_ble_eq_true rfl) dX1_readLine_15) (fun r10 v11 H locs hI hp9 => ?_)
    obtain ⟨hr13, hw14⟩ := hp9
    have hT15 : TxC v11 z := by rw [hw14]; exact hT.up (by decide) (by decide)
    have hq16 : v11 0 4 = nI (a + mt z a k) := by rw [hw14]; exact up_s _ _ _ _
    have kf17 : v11 2 2 = nI mm := by rw [hw14, up_at, if_neg (by omega)]; exact hR.1
    by_cases hm12 : mt z a k = lnW k
    · rw [if_pos hm12] at hr13
      subst hr13
      refine lv_if_ne (tgt := 23) hx hy dX1_readLine_18 (by decide) (fun _ => ?_) (fun q => absurd q (by decide))
      refine lv_aload_n hx hy dX1_readLine_23 rfl (lv_at hl 2 rfl) ?_
      refine lv_iload_n hx hy dX1_readLine_24 rfl (lv_at hl 0 rfl) ?_
      refine lv_iconst (v := nI 0) hx hy dX1_readLine_25 (by decide) ?_
      refine lv_iconst (v := nI 0) hx hy dX1_readLine_26 (by decide) ?_
      refine lv_iconst (v := nI 0) hx hy dX1_readLine_27 (by decide) ?_
      refine zV hI (xV F hI hl (kX0_add l E ((v11, u.2)) (b := 2) (by decide) kf17 (by omega) (nI k) (nI 0) (nI 0) (nI 0)) M_X1_45 (rX0 F hI (b := 2) (by decide)) rfl ⟨Nat.le_of_ble_eq_true rfl, Nat.le_of_ble_eq_true rfl⟩ ⟨Nat.zero_le _, Nat.zero_le _⟩ rfl (Nat.le_of_ble_eq_true rfl) dX1_readLine_28) (fun v20 H locs hI hp18 => ?_)
      subst hp18
      obtain ⟨c21, ec21⟩ : ∃ z9 : CF, z9 = addC 2 mm (nI k) (nI 0) (nI 0) (nI 0) v11 := ⟨_, rfl⟩
      have hI : Iv E s H locs (c21, u.2) := by rw [ec21]; exact hI
      refine lv_iload_n hx hy dX1_readLine_31 rfl (lv_at hl 0 rfl) ?_
      refine zI hI (xS F hI hl (kX5_numbersOfKind l E ((c21, u.2)) k (by omega)) M_X1_49 rfl ⟨Nat.le_of_ble_eq_true rfl, Nat.le_of_ble_eq_true rfl⟩ ⟨Nat.zero_le _, Nat.zero_le _⟩ rfl (Nat.le_of_ble_eq_true rfl) dX1_readLine_32) (fun r23 v24 H locs hI hp22 => ?_)
      subst hp22
      refine tI (tbl_np k hk7) ?_
      have hL : lin z a = nums z k 4 1 (a + mt z a k) (k, 0, 0, 0) := (by unfold lin; rw [hk4]; exact if_pos hm12)
      have hn3 := npK_le k hk7
      have hmz := mtc_in z a k (lnW k) 0 (by omega)
      have hmz2 : a + mt z a k ≤ z.1 := hmz
      refine lv_istore_n (lv' := [(3, .int (nI (npK k))), (2, .int (nI k)), (0, .ref (eA E 3)), (1, .ref (eA E (10 + 3 * 2)))]) hx hy dX1_readLine_35 rfl hl (by decide) rfl (fun ls hl => ?_)
      refine lv_iconst (v := nI 1) hx hy dX1_readLine_36 (by decide) ?_
      refine lv_istore (lv' := [(4, .int (nI 1)), (3, .int (nI (npK k))), (2, .int (nI k)), (0, .ref (eA E 3)), (1, .ref (eA E (10 + 3 * 2)))]) hx hy dX1_readLine_37 hl (by decide) rfl (fun ls hl => ?_)
      have lp25 : ∀ (fu : Nat) (w b : Nat) (ln : Ln) (c : CF), (w ≤ npK k) → (npK k + 1 - w < fu) → (b ≤ z.1) → (OthT u.1 c) → (c 0 4 = nI b) → (RepL 2 c (mm + 1) (fun j => if j = mm then ln else f j)) → (nums z k 4 1 (a + mt z a k) (k, 0, 0, 0) = nums z k (4 - w) (w + 1) b ln) →  ∀ (H : Heap) (locs : List Loc) (ls : Array Slot), Iv E s H locs ((c, u.2)) → lv_has ls 6 [(4, .int (nI (w + 1))), (3, .int (nI (npK k))), (2, .int (nI k)), (0, .ref (eA E 3)), (1, .ref (eA E (10 + 3 * 2)))] → W p l e (Rm 6 128) s m args below meth co H locs 0 0 Q (F0 m 39 ls []) := by
        intro fu
        induction fu with
        | zero => intro w b ln c hw hf hb hO hpc hRc hM; exact absurd hf (Nat.not_lt_zero _)
        | succ fu ih =>
          intro w b ln c hw hf hb hO hpc hRc hM H locs ls hI hl
          have hTc : TxC c z := hO.tx hT
          have ih_39 := ih
          refine lv_iload hx hy dX1_readLine_39 (lv_at hl 0 rfl) ?_
          refine lv_iload_n hx hy dX1_readLine_41 rfl (lv_at hl 1 rfl) ?_
          refine lv_icmp_gt (tgt := 104) hx hy dX1_readLine_42 (by decide) (fun h26 => ?_) (fun h26 => ?_)
          · have h26 : npK k < w + 1 := (nI_ltI (a := npK k) (b := w + 1) (by omega) (by omega)).mp h26
            refine lv_iconst (v := nI 1) hx hy dX1_readLine_104 (by decide) ?_
            exact rZ hQ F (v := c) rfl hI dX1_readLine_105 (by have e9 : lin z a = (some ln, b) := hL.trans (hM.trans (nums_end _ (by omega))); rw [LineP, e9]; exact ⟨hO, hpc, Or.inr ⟨ln, rfl, rfl, hRc⟩⟩)
          · have h26 : w + 1 ≤ npK k := Nat.le_of_not_lt (fun q9 => h26 ((nI_ltI (a := npK k) (b := w + 1) (by omega) (by omega)).mpr q9))
            refine lv_aload_n hx hy dX1_readLine_45 rfl (lv_at hl 3 rfl) ?_
            refine lv_bipush (v := nI 32) hx hy dX1_readLine_46 (by decide) ?_
            refine zI hI (xV F hI hl (kX1_take l E ((c, u.2)) hTc hpc (by omega) 32 (by omega)) M_X1_29 (rX1 F hI) rfl ⟨Nat.le_of_ble_eq_true rfl, Nat.le_of_ble_eq_true rfl⟩ ⟨Nat.zero_le _, Nat.zero_le _⟩ rfl (Nat.le_of_ble_eq_true rfl) dX1_readLine_48) (fun r28 v29 H locs hI hp27 => ?_)
            by_cases hb30 : b < z.1 ∧ z.2 b = 32
            · rw [if_pos hb30] at hp27
              obtain ⟨rfl, hw31⟩ := hp27
              have hT32 : TxC v29 z := by rw [hw31]; exact hTc.up (by decide) (by decide)
              have hq33 : v29 0 4 = nI (b + 1) := by rw [hw31]; exact up_s _ _ _ _
              have kf34 : v29 2 2 = nI (mm + 1) := by rw [hw31, up_at, if_neg (by omega)]; exact hRc.1
              refine lv_if_eq (tgt := 73) hx hy dX1_readLine_51 (by decide) (fun q => absurd q (by decide)) (fun _ => ?_)
              refine lv_aload_n hx hy dX1_readLine_54 rfl (lv_at hl 3 rfl) ?_
              refine lv_iload_n hx hy dX1_readLine_55 rfl (lv_at hl 2 rfl) ?_
              refine lv_iload hx hy dX1_readLine_56 (lv_at hl 0 rfl) ?_
              refine zI hI (xS F hI hl (kX1_leastNumber l E ((v29, u.2)) k (w + 1) (by omega) (by omega)) M_X1_53 rfl ⟨Nat.le_of_ble_eq_true rfl, Nat.le_of_ble_eq_true rfl⟩ ⟨Nat.zero_le _, Nat.zero_le _⟩ rfl (Nat.le_of_ble_eq_true rfl) dX1_readLine_58) (fun r36 v37 H locs hI hp35 => ?_)
              subst hp35
              refine lv_iload_n hx hy dX1_readLine_61 rfl (lv_at hl 2 rfl) ?_
              refine lv_iload hx hy dX1_readLine_62 (lv_at hl 0 rfl) ?_
              refine zI hI (xS F hI hl (kX1_mostNumber l E ((v29, u.2)) k (w + 1) (by omega) (by omega)) M_X1_57 rfl ⟨Nat.le_of_ble_eq_true rfl, Nat.le_of_ble_eq_true rfl⟩ ⟨Nat.zero_le _, Nat.zero_le _⟩ rfl (Nat.le_of_ble_eq_true rfl) dX1_readLine_64) (fun r39 v40 H locs hI hp38 => ?_)
              subst hp38
              refine zI hI (xV F hI hl (kX1_readNumber l E ((v29, u.2)) hT32 hq33 (by omega) (loK k (w + 1)) (hiK k (w + 1)) (loK_hi _ _).1 (loK_hi _ _).2.1 (loK_hi _ _).2.2) M_X1_60 (rX1 F hI) rfl ⟨Nat.le_of_ble_eq_true rfl, Nat.le_of_ble_eq_true rfl⟩ ⟨Nat.zero_le _, Nat.zero_le _⟩ rfl (Nat.le_of_ble_eq_true rfl) dX1_readLine_67) (fun r42 v43 H locs hI hp41 => ?_)
              obtain ⟨hr44, hw45⟩ := hp41
              have hbn : bn z (loK k (w + 1)) (hiK k (w + 1)) b = dg z (loK k (w + 1)) (hiK k (w + 1)) (b + 1) := if_pos hb30
              have hW46 : v43 = up c 0 4 (nI ((dg z (loK k (w + 1)) (hiK k (w + 1)) (b + 1)).2)) := by rw [hw45, hw31, up_up]
              have hT47 : TxC v43 z := by rw [hW46]; exact hTc.up (by decide) (by decide)
              have hq48 : v43 0 4 = nI ((dg z (loK k (w + 1)) (hiK k (w + 1)) (b + 1)).2) := by rw [hW46]; exact up_s _ _ _ _
              have kf49 : v43 2 2 = nI (mm + 1) := by rw [hW46, up_at, if_neg (by omega)]; exact hRc.1
              rcases dg_cases (z := z) (lo := loK k (w + 1)) (mo := hiK k (w + 1)) (a := b + 1) (by omega) (loK_hi _ _).2.1 with hx50 | ⟨nv, hx50⟩
              · rw [hx50.1] at hr44
                subst hr44
                refine tI (show _ = (-1 : Int32) from rfl) ?_
                refine lv_goto (tgt := 74) hx hy dX1_readLine_70 (by decide) ?_
                refine lv_istore (lv' := [(5, .int ((-1))), (4, .int (nI (w + 1))), (3, .int (nI (npK k))), (2, .int (nI k)), (0, .ref (eA E 3)), (1, .ref (eA E (10 + 3 * 2)))]) hx hy dX1_readLine_74 hl (by decide) rfl (fun ls hl => ?_)
                refine lv_iload hx hy dX1_readLine_76 (lv_at hl 0 rfl) ?_
                refine lv_iconst (v := (-1)) hx hy dX1_readLine_78 (by decide) ?_
                refine lv_icmp_ne (tgt := 84) hx hy dX1_readLine_79 (by decide) (fun q => absurd q (by decide)) (fun _ => ?_)
                refine lv_iconst (v := nI 0) hx hy dX1_readLine_82 (by decide) ?_
                exact rZ hQ F (v := v43) rfl hI dX1_readLine_83 (by have e9 : lin z a = (none, _) := hL.trans (hM.trans (nums_fail (by omega) (by omega) (hbn.trans (Prod.ext hx50.1 rfl)))); rw [LineP, e9]; exact ⟨by rw [hW46]; exact hO.up (by omega), hq48, Or.inl ⟨rfl, rfl⟩⟩)
              · have hx1 := hx50.1
                have hx2 := hx50.2
                have hx9 := (loK_hi k (w + 1)).2.2
                rw [hx1] at hr44
                subst hr44
                refine tI (show _ = nI nv from rfl) ?_
                refine lv_goto (tgt := 74) hx hy dX1_readLine_70 (by decide) ?_
                refine lv_istore (lv' := [(5, .int (nI nv)), (4, .int (nI (w + 1))), (3, .int (nI (npK k))), (2, .int (nI k)), (0, .ref (eA E 3)), (1, .ref (eA E (10 + 3 * 2)))]) hx hy dX1_readLine_74 hl (by decide) rfl (fun ls hl => ?_)
                refine lv_iload hx hy dX1_readLine_76 (lv_at hl 0 rfl) ?_
                refine lv_iconst (v := (-1)) hx hy dX1_readLine_78 (by decide) ?_
                refine lv_icmp_ne (tgt := 84) hx hy dX1_readLine_79 (by decide) (fun h51 => ?_) (fun q => absurd q (m1_ne (by omega)))
                refine lv_aload_n hx hy dX1_readLine_84 rfl (lv_at hl 5 rfl) ?_
                refine lv_aload_n hx hy dX1_readLine_85 rfl (lv_at hl 5 rfl) ?_
                refine gX0_size F hI (b := 2) (by decide) L_X1_22 dX1_readLine_86 ?_
                refine tI (show _ = v43 2 2 from rfl) ?_
                refine tI kf49 ?_
                refine lv_iconst (v := nI 1) hx hy dX1_readLine_89 (by decide) ?_
                refine lv_isub hx hy dX1_readLine_90 ?_
                refine tI (pk_sub (a := mm + 1) (b := 1) (by omega)) ?_
                refine tI (show _ = nI mm from rfl) ?_
                refine lv_iload hx hy dX1_readLine_91 (lv_at hl 1 rfl) ?_
                refine lv_iload hx hy dX1_readLine_93 (lv_at hl 0 rfl) ?_
                refine zV hI (xV F hI hl (kX0_setNumber l E ((v43, u.2)) (b := 2) (by decide) (nI mm) (nI (w + 1)) (nI nv)) M_X1_63 (rX0 F hI (b := 2) (by decide)) rfl ⟨Nat.le_of_ble_eq_true rfl, Nat.le_of_ble_eq_true rfl⟩ ⟨Nat.zero_le _, Nat.zero_le _⟩ rfl (Nat.le_of_ble_eq_true rfl) dX1_readLine_95) (fun v54 H locs hI hp52 => ?_)
                rw [show nI mm * nI 3 + nI (w + 1) - nI 1 = nI (3 * mm + w) from ix3 mm w, stE_lt (by omega) (by decide)] at hp52
                subst hp52
                obtain ⟨c55, ec55⟩ : ∃ z9 : CF, z9 = up v43 (30 + 2) (3 * mm + w) (nI nv) := ⟨_, rfl⟩
                have hI : Iv E s H locs (c55, u.2) := by rw [ec55]; exact hI
                have kf56 : c55 0 3 = nI z.1 := by rw [ec55, up_at, if_neg (by omega)]; exact hT47.1
                have kf57 : c55 0 4 = nI ((dg z (loK k (w + 1)) (hiK k (w + 1)) (b + 1)).2) := by rw [ec55, up_at, if_neg (by omega)]; exact hq48
                have kf58 : c55 2 2 = nI (mm + 1) := by rw [ec55, up_at, if_neg (by omega)]; exact kf49
                refine lv_iinc (v := nI (w + 1 + 1)) (lv' := [(4, .int (nI (w + 1 + 1))), (5, .int (nI nv)), (3, .int (nI (npK k))), (2, .int (nI k)), (0, .ref (eA E 3)), (1, .ref (eA E (10 + 3 * 2)))]) hx hy dX1_readLine_98 hl (k := 1) rfl (nI_add (w + 1) 1) (by decide) rfl (fun ls hl => ?_)
                refine lv_goto (tgt := 39) hx hy dX1_readLine_101 (by decide) ?_
                exact ih_39 (w + 1) (dg z (loK k (w + 1)) (hiK k (w + 1)) (b + 1)).2 (setN ln (w + 1) nv) c55 (by omega) (by omega) (by omega) (by rw [ec55, hW46]; exact (hO.up (by omega)).up (by omega)) (by rw [ec55, up_at, if_neg (by omega)]; exact hq48) (by rw [ec55]; exact (show RepL 2 v43 (mm + 1) _ by rw [hW46]; exact hRc.place _).num (by omega)) (hM.trans (nums_step (by omega) (by omega) (hbn.trans (Prod.ext hx1 rfl)))) _ _ _ hI (lv_sub hl [0, 2, 3, 4, 5] rfl)
            · rw [if_neg hb30] at hp27
              obtain ⟨rfl, hw59⟩ := hp27
              have hI : Iv E s H locs (c, u.2) := by rw [hw59] at hI; exact hI
              refine lv_if_eq (tgt := 73) hx hy dX1_readLine_51 (by decide) (fun _ => ?_) (fun q => absurd q (by decide))
              refine lv_iconst (v := (-1)) hx hy dX1_readLine_73 (by decide) ?_
              refine lv_istore (lv' := [(5, .int ((-1))), (4, .int (nI (w + 1))), (3, .int (nI (npK k))), (2, .int (nI k)), (0, .ref (eA E 3)), (1, .ref (eA E (10 + 3 * 2)))]) hx hy dX1_readLine_74 hl (by decide) rfl (fun ls hl => ?_)
              refine lv_iload hx hy dX1_readLine_76 (lv_at hl 0 rfl) ?_
              refine lv_iconst (v := (-1)) hx hy dX1_readLine_78 (by decide) ?_
              refine lv_icmp_ne (tgt := 84) hx hy dX1_readLine_79 (by decide) (fun q => absurd q (by decide)) (fun _ => ?_)
              refine lv_iconst (v := nI 0) hx hy dX1_readLine_82 (by decide) ?_
              exact rZ hQ F (v := c) rfl hI dX1_readLine_83 (by have e9 : lin z a = (none, b) := hL.trans (hM.trans (nums_fail (by omega) (by omega) (by unfold bn; exact if_neg hb30))); rw [LineP, e9]; exact ⟨hO, hpc, Or.inl ⟨rfl, rfl⟩⟩)
      exact lp25 5 0 (a + mt z a k) (k, 0, 0, 0) c21 (by omega) (by omega) (by omega) (by rw [ec21]; exact (show OthT u.1 v11 by rw [hw14]; exact (OthT.rf _).up (by omega)).add) (by rw [ec21, addC]; rw [up_at, if_neg (by omega), up_at, if_neg (by omega), up_at, if_neg (by omega), up_at, if_neg (by omega), up_at, if_neg (by omega)]; exact hq16) (by rw [ec21]; exact (show RepL 2 v11 mm f by rw [hw14]; exact hR.place _).line) rfl _ _ _ hI (lv_sub hl [0, 1, 2, 3, 4] rfl)
    · rw [if_neg hm12] at hr13
      subst hr13
      refine lv_if_ne (tgt := 23) hx hy dX1_readLine_18 (by decide) (fun q => absurd q (by decide)) (fun _ => ?_)
      refine lv_iconst (v := nI 0) hx hy dX1_readLine_21 (by decide) ?_
      exact rZ hQ F (v := v11) rfl hI dX1_readLine_22 (by have e9 : lin z a = (none, a + mt z a k) := (by unfold lin; rw [hk4]; exact if_neg hm12); rw [LineP, e9]; exact ⟨by rw [hw14]; exact (OthT.rf _).up (by omega), hq16, Or.inl ⟨rfl, rfl⟩⟩)
set_option maxHeartbeats 400000 in
set_option maxRecDepth 100000 in
theorem kX1_readInto (l : Launch) (E : EV) (u : SS) {z : Tx} (hT : TxC u.1 z) : CT l yX1_readInto cX1_readInto 3 (some .int) (Rm 7 153) [.ref (eA E 3), .ref (eA E (10 + 3 * 2))] E u (Q_i E (fun r c => OthT u.1 c ∧ r = kdI (rdT z).1 ∧ ((rdT z).1 = none → RepL 2 c (rdT z).2.1 (rdT z).2.2)) (fun (c : CF) => (c, u.2))) := by
  refine mstart RX1 (by decide +kernel) rfl (Nat.le_of_ble_eq_true rfl) ?_
  intro p e s m args below meth co ls Q hQ F hI hl
  have hx := F.1
  have hy := F.2.1
  have hl : lv_has ls 3 [(0, .ref (eA E 3)), (1, .ref (eA E (10 + 3 * 2)))] := hl
  have hT2 := hT.2.1
  refine lv_aload_n hx hy dX1_readInto_0 rfl (lv_at hl 1 rfl) ?_
  refine lv_iconst (v := nI 0) hx hy dX1_readInto_1 (by decide) ?_
  refine pX0_size F hI (b := 2) (by decide) L_X1_22 dX1_readInto_2 (fun H locs hI => ?_)
  obtain ⟨c1, ec1⟩ : ∃ z9 : CF, z9 = up u.1 2 2 (nI 0) := ⟨_, rfl⟩
  have hI : Iv E s H locs (c1, u.2) := by rw [ec1]; exact hI
  have kf2 : c1 0 3 = nI z.1 := by rw [ec1, up_at, if_neg (by omega)]; exact hT.1
  refine lv_aload_n hx hy dX1_readInto_5 rfl (lv_at hl 0 rfl) ?_
  refine lv_iconst (v := nI 0) hx hy dX1_readInto_6 (by decide) ?_
  refine pX1_place F hI L_X1_19 dX1_readInto_7 (fun H locs hI => ?_)
  obtain ⟨c3, ec3⟩ : ∃ z9 : CF, z9 = up c1 0 4 (nI 0) := ⟨_, rfl⟩
  have hI : Iv E s H locs (c3, u.2) := by rw [ec3]; exact hI
  have kf4 : c3 2 2 = nI 0 := by rw [ec3, up_at, if_neg (by omega)]; exact (show c1 2 2 = nI 0 by rw [ec1]; exact up_s _ _ _ _)
  refine lv_iconst (v := nI 0) hx hy dX1_readInto_10 (by decide) ?_
  refine lv_istore_n (lv' := [(2, .int (nI 0)), (0, .ref (eA E 3)), (1, .ref (eA E (10 + 3 * 2)))]) hx hy dX1_readInto_11 rfl hl (by decide) rfl (fun ls hl => ?_)
  have lp5 : ∀ (fu : Nat) (i b : Nat) (g : Nat → Ln) (c : CF), (b ≤ z.1) → (6 * i ≤ b) → (81 - i < fu) → (OthT u.1 c) → (c 0 4 = nI b) → (RepL 2 c i g) → (rdT z = allL z (81 - i) b i g) →  ∀ (H : Heap) (locs : List Loc) (ls : Array Slot), Iv E s H locs ((c, u.2)) → lv_has ls 3 [(2, .int (nI i)), (0, .ref (eA E 3)), (1, .ref (eA E (10 + 3 * 2)))] → W p l e (Rm 7 153) s m args below meth co H locs 0 0 Q (F0 m 12 ls []) := by
    intro fu
    induction fu with
    | zero => intro i b g c hb h6 hf hO hpc hRc hM; exact absurd hf (Nat.not_lt_zero _)
    | succ fu ih =>
      intro i b g c hb h6 hf hO hpc hRc hM H locs ls hI hl
      have hTc : TxC c z := hO.tx hT
      have ih_12 := ih
      refine lv_iload_n hx hy dX1_readInto_12 rfl (lv_at hl 0 rfl) ?_
      refine lv_bipush (v := nI 80) hx hy dX1_readInto_13 (by decide) ?_
      refine lv_icmp_gt (tgt := 64) hx hy dX1_readInto_15 (by decide) (fun h6 => ?_) (fun h6 => ?_)
      · have h6 : 80 < i := (nI_ltI (a := 80) (b := i) (by omega) (by omega)).mp h6
        exact absurd h6 (by omega)
      · have h6 : i ≤ 80 := Nat.le_of_not_lt (fun q9 => h6 ((nI_ltI (a := 80) (b := i) (by omega) (by omega)).mpr q9))
        refine lv_aload_n hx hy dX1_readInto_18 rfl (lv_at hl 1 rfl) ?_
        refine lv_aload_n hx hy dX1_readInto_19 rfl (lv_at hl 2 rfl) ?_
        refine zI hI (xV F hI hl (kX1_readLine l E ((c, u.2)) hTc hpc (by omega) hRc (by omega)) M_X1_25 (rX1 F hI) rfl ⟨Nat.le_of_ble_eq_true rfl, Nat.le_of_ble_eq_true rfl⟩ ⟨Nat.zero_le _, Nat.zero_le _⟩ rfl (Nat.le_of_ble_eq_true rfl) dX1_readInto_20) (fun r8 v9 H locs hI hp7 => ?_)
        obtain ⟨hO10, hq11, hx12⟩ := hp7
        have hll := lin_len (z := z) (a := b) hb
        have hTv : TxC v9 z := hO10.tx hTc
        rcases hx12 with hx12 | hx12
        · obtain ⟨hx1, hx2⟩ := hx12
          subst hx2
          refine tI (show _ = nI 0 from rfl) ?_
          refine lv_if_ne (tgt := 31) hx hy dX1_readInto_23 (by decide) (fun q => absurd q (by decide)) (fun _ => ?_)
          refine lv_aload_n hx hy dX1_readInto_26 rfl (lv_at hl 1 rfl) ?_
          refine gX1_place F hI L_X1_19 dX1_readInto_27 ?_
          refine tI (show _ = v9 0 4 from rfl) ?_
          refine tI hq11 ?_
          exact rI hQ F (v := v9) hI dX1_readInto_30 (by have e9 : rdT z = _ := hM.trans ((congrArg (fun n9 => allL z n9 b i g) (show 81 - i = (80 - i) + 1 by omega)).trans (allL_fault hx1)); rw [e9]; exact ⟨(hO.tr hO10), rfl, fun q9 => by cases q9⟩)
        · obtain ⟨ql, hx1, hx2, hx3⟩ := hx12
          subst hx2
          refine tI (show _ = nI 1 from rfl) ?_
          have hl5 := hll.2 (by rw [hx1]; rfl)
          refine lv_if_ne (tgt := 31) hx hy dX1_readInto_23 (by decide) (fun _ => ?_) (fun q => absurd q (by decide))
          refine lv_aload_n hx hy dX1_readInto_31 rfl (lv_at hl 1 rfl) ?_
          refine gX1_place F hI L_X1_19 dX1_readInto_32 ?_
          refine tI (show _ = v9 0 4 from rfl) ?_
          refine tI hq11 ?_
          refine lv_aload_n hx hy dX1_readInto_35 rfl (lv_at hl 1 rfl) ?_
          refine gX1_size F hI L_X1_15 dX1_readInto_36 ?_
          refine tI (show _ = v9 0 3 from rfl) ?_
          refine tI hTv.1 ?_
          refine lv_icmp_ne (tgt := 44) hx hy dX1_readInto_39 (by decide) (fun h13 => ?_) (fun h13 => ?_)
          · have h13 : (lin z b).2 ≠ z.1 := fun q9 => h13 ((nI_eq (a := (lin z b).2) (b := z.1) (by omega) (by omega)).mpr q9)
            refine lv_aload_n hx hy dX1_readInto_44 rfl (lv_at hl 1 rfl) ?_
            refine lv_bipush (v := nI 59) hx hy dX1_readInto_45 (by decide) ?_
            refine zI hI (xV F hI hl (kX1_take l E ((v9, u.2)) hTv hq11 (by omega) 59 (by omega)) M_X1_29 (rX1 F hI) rfl ⟨Nat.le_of_ble_eq_true rfl, Nat.le_of_ble_eq_true rfl⟩ ⟨Nat.zero_le _, Nat.zero_le _⟩ rfl (Nat.le_of_ble_eq_true rfl) dX1_readInto_47) (fun r15 v16 H locs hI hp14 => ?_)
            by_cases hb17 : (lin z b).2 < z.1 ∧ z.2 ((lin z b).2) = 59
            · rw [if_pos hb17] at hp14
              obtain ⟨rfl, hw18⟩ := hp14
              have hT19 : TxC v16 z := by rw [hw18]; exact hTv.up (by decide) (by decide)
              have hq20 : v16 0 4 = nI ((lin z b).2 + 1) := by rw [hw18]; exact up_s _ _ _ _
              refine lv_if_ne (tgt := 58) hx hy dX1_readInto_50 (by decide) (fun _ => ?_) (fun q => absurd q (by decide))
              refine lv_iinc (v := nI (i + 1)) (lv' := [(2, .int (nI (i + 1))), (0, .ref (eA E 3)), (1, .ref (eA E (10 + 3 * 2)))]) hx hy dX1_readInto_58 hl (k := 0) rfl (nI_add (i) 1) (by decide) rfl (fun ls hl => ?_)
              refine lv_goto (tgt := 12) hx hy dX1_readInto_61 (by decide) ?_
              exact ih_12 (i + 1) ((lin z b).2 + 1) (fun j => if j = i then ql else g j) v16 (by omega) (by omega) (by omega) (by rw [hw18]; exact (hO.tr hO10).up (by omega)) hq20 (by rw [hw18]; exact hx3.place _) (hM.trans (by rw [show 81 - i = (80 - i) + 1 from by omega, allL_next hx1 h13 hb17, show 81 - (i + 1) = 80 - i from by omega])) _ _ _ hI (lv_sub hl [0, 1, 2] rfl)
            · rw [if_neg hb17] at hp14
              obtain ⟨rfl, hw21⟩ := hp14
              have hI : Iv E s H locs (v9, u.2) := by rw [hw21] at hI; exact hI
              refine lv_if_ne (tgt := 58) hx hy dX1_readInto_50 (by decide) (fun q => absurd q (by decide)) (fun _ => ?_)
              refine lv_aload_n hx hy dX1_readInto_53 rfl (lv_at hl 1 rfl) ?_
              refine gX1_place F hI L_X1_19 dX1_readInto_54 ?_
              refine tI (show _ = v9 0 4 from rfl) ?_
              refine tI hq11 ?_
              exact rI hQ F (v := v9) hI dX1_readInto_57 (by have e9 : rdT z = _ := hM.trans ((congrArg (fun n9 => allL z n9 b i g) (show 81 - i = (80 - i) + 1 by omega)).trans (allL_stop hx1 h13 hb17)); rw [e9]; exact ⟨(hO.tr hO10), rfl, fun q9 => by cases q9⟩)
          · have h13 : (lin z b).2 = z.1 := (nI_eq (a := (lin z b).2) (b := z.1) (by omega) (by omega)).mp h13
            refine lv_iconst (v := (-1)) hx hy dX1_readInto_42 (by decide) ?_
            exact rI hQ F (v := v9) hI dX1_readInto_43 (by have e9 : rdT z = _ := hM.trans ((congrArg (fun n9 => allL z n9 b i g) (show 81 - i = (80 - i) + 1 by omega)).trans (allL_end hx1 (by omega))); rw [e9]; exact ⟨(hO.tr hO10), rfl, fun _ => hx3⟩)
  exact lp5 82 0 0 (fun _ => (0, 0, 0, 0)) c3 (Nat.zero_le _) (by omega) (by omega) (by rw [ec3, ec1]; exact ((OthT.rf _).up (by omega)).up (by omega)) (by rw [ec3]; exact up_s _ _ _ _) ⟨by rw [ec3, up_at, if_neg (by omega), ec1]; exact up_s _ _ _ _, fun j hj => absurd hj (Nat.not_lt_zero _)⟩ rfl _ _ _ hI (lv_sub hl [0, 1, 2] rfl)
