set_option maxHeartbeats 400000 in
set_option maxRecDepth 100000 in
theorem kX6_sizeOf (l : Launch) (E : EV) (u : SS) (k : Nat) (hk : k < 7) : CT l yX6_sizeOf cX6_sizeOf 5 (some .int) (Rm 0 0) [.long (wordsF k)] E u (Q_i E (fun r _ => r = nI (lnW k)) (fun (_ : Unit) => u)) := by
  refine mstart RX6 (by decide +kernel) rfl (Nat.le_of_ble_eq_true rfl) ?_
  intro p e s m args below meth co ls Q hQ F hI hl
  have hx := F.1
  have hy := F.2.1
  have hl : lv_has ls 5 [(0, .long (wordsF k))] := hl
  have hl6 := lnW_pos k hk
  refine lv_iconst (v := nI 0) hx hy dX6_sizeOf_0 (by decide) ?_
  refine lv_istore_n (lv' := [(2, .int (nI 0)), (0, .long (wordsF k))]) hx hy dX6_sizeOf_1 rfl hl (by decide) rfl (fun ls hl => ?_)
  refine lv_lload_n hx hy dX6_sizeOf_2 rfl (lv_at hl 1 rfl) ?_
  refine lv_lstore_n (lv' := [(3, .long (wordsF k)), (2, .int (nI 0)), (0, .long (wordsF k))]) hx hy dX6_sizeOf_3 rfl hl (by decide) rfl (fun ls hl => ?_)
  have lp1 : ∀ (fu : Nat) (n : Nat), (n ≤ lnW k) → (lnW k - n < fu) →  ∀ (H : Heap) (locs : List Loc) (ls : Array Slot), Iv E s H locs (u) → lv_has ls 5 [(3, .long (shN (wordsF k) n)), (2, .int (nI n)), (0, .long (wordsF k))] → W p l e (Rm 0 0) s m args below meth co H locs 0 0 Q (F0 m 4 ls []) := by
    intro fu
    induction fu with
    | zero => intro n hn hf; exact absurd hf (Nat.not_lt_zero _)
    | succ fu ih =>
      intro n hn hf H locs ls hI hl
      have ih_4 := ih
      refine lv_lload_n hx hy dX6_sizeOf_4 rfl (lv_at hl 0 rfl) ?_
      refine lv_lconst (v := lN 0) hx hy dX6_sizeOf_5 (by decide) ?_
      refine W.lcmp hx hy dX6_sizeOf_6 ?_
      refine lv_if_le (tgt := 21) hx hy dX6_sizeOf_7 (by decide) (fun h2 => ?_) (fun h2 => ?_)
      · have h2 := (lg_cmp_le _ _).mp h2
        refine lv_iload_n hx hy dX6_sizeOf_21 rfl (lv_at hl 1 rfl) ?_
        exact rI hQ F (v := ()) hI dX6_sizeOf_22 (by rcases Nat.lt_or_ge n (lnW k) with q9 | q9; exact absurd h2 (sh_pos k hk n q9); rw [show n = lnW k from by omega])
      · have h2 := fun q9 => h2 ((lg_cmp_le _ _).mpr q9)
        refine lv_iinc (v := nI (n + 1)) (lv' := [(2, .int (nI (n + 1))), (3, .long (shN (wordsF k) n)), (0, .long (wordsF k))]) hx hy dX6_sizeOf_10 hl (k := 1) rfl (nI_add (n) 1) (by decide) rfl (fun ls hl => ?_)
        refine lv_lload_n hx hy dX6_sizeOf_13 rfl (lv_at hl 1 rfl) ?_
        refine lv_bipush (v := nI 8) hx hy dX6_sizeOf_14 (by decide) ?_
        refine lv_lshr (v := (shN (wordsF k) n) >>> (Int32.toInt64 (nI 8) &&& 63)) hx hy dX6_sizeOf_16 rfl ?_
        refine tL (show _ = shN (wordsF k) (n + 1) from rfl) ?_
        refine lv_lstore_n (lv' := [(3, .long (shN (wordsF k) (n + 1))), (2, .int (nI (n + 1))), (0, .long (wordsF k))]) hx hy dX6_sizeOf_17 rfl hl (by decide) rfl (fun ls hl => ?_)
        refine lv_goto (tgt := 4) hx hy dX6_sizeOf_18 (by decide) ?_
        exact ih_4 (n + 1) (by rcases Nat.lt_or_ge n (lnW k) with q9 | q9; omega; exact absurd (sh_end k hk) (by rw [show lnW k = n from by omega]; exact h2)) (by rcases Nat.lt_or_ge n (lnW k) with q9 | q9; omega; exact absurd (sh_end k hk) (by rw [show lnW k = n from by omega]; exact h2)) _ _ _ hI (lv_sub hl [0, 1, 2] rfl)
  exact lp1 (lnW k + 1) 0 (by omega) (by omega) _ _ _ hI (lv_sub hl [0, 1, 2] rfl)
set_option maxHeartbeats 400000 in
set_option maxRecDepth 100000 in
theorem kX6_likeness (l : Launch) (E : EV) (u : SS) {z : Tx} {a : Nat} (hT : TxS u.1 z a) (k : Nat) (hk : k < 7) : CT l yX6_likeness cX6_likeness 5 (some .int) (Rm 1 24) [.ref (eA E 48), .long (wordsF k)] E u (Q_i E (fun r _ => r = nI (mt z a k)) (fun (_ : Unit) => u)) := by
  refine mstart RX6 (by decide +kernel) rfl (Nat.le_of_ble_eq_true rfl) ?_
  intro p e s m args below meth co ls Q hQ F hI hl
  have hx := F.1
  have hy := F.2.1
  have hl : lv_has ls 5 [(0, .ref (eA E 48)), (1, .long (wordsF k))] := hl
  have ht80 := hT.2.1
  have haz := hT.2.2.2.2
  have hl6 := lnW_pos k hk
  refine lv_lload_n hx hy dX6_likeness_0 rfl (lv_at hl 1 rfl) ?_
  refine zI hI (xS F hI hl (kX6_sizeOf l E (u) k (by omega)) M_X6_143 rfl ⟨Nat.le_of_ble_eq_true rfl, Nat.le_of_ble_eq_true rfl⟩ ⟨Nat.zero_le _, Nat.zero_le _⟩ rfl (Nat.le_of_ble_eq_true rfl) dX6_likeness_1) (fun r2 v3 H locs hI hp1 => ?_)
  subst hp1
  refine lv_istore_n (lv' := [(3, .int (nI (lnW k))), (0, .ref (eA E 48)), (1, .long (wordsF k))]) hx hy dX6_likeness_4 rfl hl (by decide) rfl (fun ls hl => ?_)
  refine lv_iconst (v := nI 0) hx hy dX6_likeness_5 (by decide) ?_
  refine lv_istore (lv' := [(4, .int (nI 0)), (3, .int (nI (lnW k))), (0, .ref (eA E 48)), (1, .long (wordsF k))]) hx hy dX6_likeness_6 hl (by decide) rfl (fun ls hl => ?_)
  have lp4 : ∀ (fu : Nat) (n : Nat), (n ≤ lnW k) → (lnW k - n < fu) → (mt z a k = mtc z a k n (lnW k - n)) →  ∀ (H : Heap) (locs : List Loc) (ls : Array Slot), Iv E s H locs (u) → lv_has ls 5 [(4, .int (nI n)), (3, .int (nI (lnW k))), (0, .ref (eA E 48)), (1, .long (wordsF k))] → W p l e (Rm 1 24) s m args below meth co H locs 0 0 Q (F0 m 8 ls []) := by
    intro fu
    induction fu with
    | zero => intro n hn hf hM; exact absurd hf (Nat.not_lt_zero _)
    | succ fu ih =>
      intro n hn hf hM H locs ls hI hl
      have ih_8 := ih
      refine lv_iload hx hy dX6_likeness_8 (lv_at hl 0 rfl) ?_
      refine lv_iload_n hx hy dX6_likeness_10 rfl (lv_at hl 1 rfl) ?_
      refine lv_icmp_ge (tgt := 66) hx hy dX6_likeness_11 (by decide) (fun h5 => ?_) (fun h5 => ?_)
      · have h5 : lnW k ≤ n := (nI_leI (a := lnW k) (b := n) (by omega) (by omega)).mp h5
        refine lv_iload hx hy dX6_likeness_66 (lv_at hl 0 rfl) ?_
        exact rI hQ F (v := ()) hI dX6_likeness_68 (congrArg nI (hM.trans (by rcases Nat.lt_or_ge n (lnW k) with q9 | q9; exact mtc_stop q9 (fun q8 => by omega); rw [show lnW k - n = 0 from by omega]; rfl)).symm)
      · have h5 : n < lnW k := Nat.lt_of_not_le (fun q9 => h5 ((nI_leI (a := lnW k) (b := n) (by omega) (by omega)).mpr q9))
        refine lv_aload_n hx hy dX6_likeness_14 rfl (lv_at hl 2 rfl) ?_
        refine gX6_spot F hI L_X6_147 dX6_likeness_15 ?_
        refine tI hT.2.2.2.1 ?_
        refine lv_iload hx hy dX6_likeness_18 (lv_at hl 0 rfl) ?_
        refine lv_iadd hx hy dX6_likeness_20 ?_
        refine tI (nI_add (a) (n)) ?_
        refine lv_aload_n hx hy dX6_likeness_21 rfl (lv_at hl 2 rfl) ?_
        refine gX6_textLong F hI L_X6_140 dX6_likeness_22 ?_
        refine tI hT.1.1 ?_
        refine lv_icmp_ge (tgt := 66) hx hy dX6_likeness_25 (by decide) (fun h6 => ?_) (fun h6 => ?_)
        · have h6 : z.1 ≤ a + n := (nI_leI (a := z.1) (b := a + n) (by omega) (by omega)).mp h6
          refine lv_iload hx hy dX6_likeness_66 (lv_at hl 0 rfl) ?_
          exact rI hQ F (v := ()) hI dX6_likeness_68 (congrArg nI (hM.trans (by rcases Nat.lt_or_ge n (lnW k) with q9 | q9; exact mtc_stop q9 (fun q8 => by omega); rw [show lnW k - n = 0 from by omega]; rfl)).symm)
        · have h6 : a + n < z.1 := Nat.lt_of_not_le (fun q9 => h6 ((nI_leI (a := z.1) (b := a + n) (by omega) (by omega)).mpr q9))
          refine lv_aload_n hx hy dX6_likeness_28 rfl (lv_at hl 2 rfl) ?_
          refine gX6_text F hI L_X6_35 dX6_likeness_29 ?_
          refine lv_aload_n hx hy dX6_likeness_32 rfl (lv_at hl 2 rfl) ?_
          refine gX6_spot F hI L_X6_147 dX6_likeness_33 ?_
          refine tI hT.2.2.2.1 ?_
          refine lv_iload hx hy dX6_likeness_36 (lv_at hl 0 rfl) ?_
          refine lv_iadd hx hy dX6_likeness_38 ?_
          refine tI (nI_add (a) (n)) ?_
          refine aIlN F hI iX6_text (i := a + n) (by omega) (by decide) dX6_likeness_39 ?_
          refine tI (hT.1.2 (a + n) (by omega)) ?_
          refine lv_i2l (v := lN (z.2 (a + n))) hx hy dX6_likeness_40 (nI_l (by have := hT.2.2.1 (a + n) (by omega); omega)) ?_
          refine lv_lload_n hx hy dX6_likeness_41 rfl (lv_at hl 3 rfl) ?_
          refine lv_bipush (v := nI 8) hx hy dX6_likeness_42 (by decide) ?_
          refine lv_iload_n hx hy dX6_likeness_44 rfl (lv_at hl 1 rfl) ?_
          refine lv_iconst (v := nI 1) hx hy dX6_likeness_45 (by decide) ?_
          refine lv_isub hx hy dX6_likeness_46 ?_
          refine tI (pk_sub (a := lnW k) (b := 1) (by omega)) ?_
          refine lv_iload hx hy dX6_likeness_47 (lv_at hl 0 rfl) ?_
          refine lv_isub hx hy dX6_likeness_49 ?_
          refine tI (pk_sub (a := (lnW k) - 1) (b := n) (by omega)) ?_
          refine lv_imul hx hy dX6_likeness_50 ?_
          refine tI (pk_mul (8) (((lnW k) - 1) - n)) ?_
          refine lv_lshr (v := (wordsF k) >>> (Int32.toInt64 (nI (8 * (((lnW k) - 1) - n))) &&& 63)) hx hy dX6_likeness_51 rfl ?_
          refine zcl F K_X6_83 dX6_likeness_52 ?_
          refine tL (show _ = lN 255 from rfl) ?_
          refine lv_land hx hy dX6_likeness_55 ?_
          have hcw := chW_lt k hk n (by omega)
          have hzl := hT.2.2.1 (a + n) (by omega)
          refine tL (ch_word k hk n (by omega)) ?_
          refine W.lcmp hx hy dX6_likeness_56 ?_
          refine lv_if_ne (tgt := 66) hx hy dX6_likeness_57 (by decide) (fun h7 => ?_) (fun h7 => ?_)
          · have h7 := fun q9 => h7 ((lg_cmp_eq _ _).mpr q9)
            have h7 : ¬ z.2 (a + n) = chW k n := fun q9 => h7 ((lNeq (a := z.2 (a + n)) (b := chW k n) (by omega) (by omega)).mpr q9)
            refine lv_iload hx hy dX6_likeness_66 (lv_at hl 0 rfl) ?_
            exact rI hQ F (v := ()) hI dX6_likeness_68 (congrArg nI (hM.trans (mtc_stop (by omega) (fun q9 => h7 q9.2))).symm)
          · have h7 := (lg_cmp_eq _ _).mp h7
            have h7 : z.2 (a + n) = chW k n := (lNeq (a := z.2 (a + n)) (b := chW k n) (by omega) (by omega)).mp h7
            refine lv_iinc (v := nI (n + 1)) (lv' := [(4, .int (nI (n + 1))), (3, .int (nI (lnW k))), (0, .ref (eA E 48)), (1, .long (wordsF k))]) hx hy dX6_likeness_60 hl (k := 0) rfl (nI_add (n) 1) (by decide) rfl (fun ls hl => ?_)
            refine lv_goto (tgt := 8) hx hy dX6_likeness_63 (by decide) ?_
            exact ih_8 (n + 1) (by omega) (by omega) (hM.trans (mtc_step (by omega) ⟨by omega, h7⟩)) _ _ _ hI (lv_sub hl [0, 1, 2, 3] rfl)
  exact lp4 (lnW k + 1) 0 (by omega) (by omega) rfl _ _ _ hI (lv_sub hl [0, 1, 2, 3] rfl)
set_option maxHeartbeats 400000 in
set_option maxRecDepth 100000 in
theorem kX6_readsWord (l : Launch) (E : EV) (u : SS) {z : Tx} {a : Nat} (hT : TxS u.1 z a) : CT l yX6_readsWord cX6_readsWord 5 (some .int) (Rm 2 48) [.ref (eA E 48)] E u (Q_i E (fun r c => r = wWd z a 7 ∧ c = up u.1 40 3 (nI (a + wMx z a 7))) (fun (c : CF) => (c, u.2))) := by
  refine mstart RX6 (by decide +kernel) rfl (Nat.le_of_ble_eq_true rfl) ?_
  intro p e s m args below meth co ls Q hQ F hI hl
  have hx := F.1
  have hy := F.2.1
  have hl : lv_has ls 5 [(0, .ref (eA E 48))] := hl
  have ht80 := hT.2.1
  have haz := hT.2.2.2.2
  refine lv_iconst (v := nI 0) hx hy dX6_readsWord_0 (by decide) ?_
  refine lv_istore_n (lv' := [(1, .int (nI 0)), (0, .ref (eA E 48))]) hx hy dX6_readsWord_1 rfl hl (by decide) rfl (fun ls hl => ?_)
  refine zc F K_X6_85 dX6_readsWord_2 ?_
  refine lv_istore_n (lv' := [(2, .int ((-100000005))), (1, .int (nI 0)), (0, .ref (eA E 48))]) hx hy dX6_readsWord_4 rfl hl (by decide) rfl (fun ls hl => ?_)
  refine lv_iconst (v := nI 0) hx hy dX6_readsWord_5 (by decide) ?_
  refine lv_istore_n (lv' := [(3, .int (nI 0)), (2, .int ((-100000005))), (1, .int (nI 0)), (0, .ref (eA E 48))]) hx hy dX6_readsWord_6 rfl hl (by decide) rfl (fun ls hl => ?_)
  have lp1 : ∀ (fu : Nat) (k : Nat), (k ≤ 7) → (7 - k < fu) →  ∀ (H : Heap) (locs : List Loc) (ls : Array Slot), Iv E s H locs (u) → lv_has ls 5 [(3, .int (nI k)), (2, .int (wWd z a k)), (1, .int (nI (wMx z a k))), (0, .ref (eA E 48))] → W p l e (Rm 2 48) s m args below meth co H locs 0 0 Q (F0 m 7 ls []) := by
    intro fu
    induction fu with
    | zero => intro k hk hf; exact absurd hf (Nat.not_lt_zero _)
    | succ fu ih =>
      intro k hk hf H locs ls hI hl
      have ih_7 := ih
      refine lv_iload_n hx hy dX6_readsWord_7 rfl (lv_at hl 0 rfl) ?_
      refine lv_bipush (v := nI 7) hx hy dX6_readsWord_8 (by decide) ?_
      refine lv_icmp_ge (tgt := 64) hx hy dX6_readsWord_10 (by decide) (fun h2 => ?_) (fun h2 => ?_)
      · have h2 : 7 ≤ k := (nI_leI (a := 7) (b := k) (by omega) (by omega)).mp h2
        have e8 : k = 7 := by omega
        subst e8
        have hl : lv_has ls 5 [(2, .int (wWd z a 7)), (1, .int (nI (wMx z a 7))), (0, .ref (eA E 48))] := lv_sub hl [1, 2, 3] rfl
        refine lv_aload_n hx hy dX6_readsWord_64 rfl (lv_at hl 2 rfl) ?_
        refine lv_dup hx hy dX6_readsWord_65 rfl ?_
        refine gX6_spot F hI L_X6_147 dX6_readsWord_66 ?_
        refine tI hT.2.2.2.1 ?_
        refine lv_iload_n hx hy dX6_readsWord_69 rfl (lv_at hl 1 rfl) ?_
        refine lv_iadd hx hy dX6_readsWord_70 ?_
        refine tI (nI_add (a) (wMx z a 7)) ?_
        refine pX6_spot F hI L_X6_147 dX6_readsWord_71 (fun H locs hI => ?_)
        obtain ⟨c3, ec3⟩ : ∃ z9 : CF, z9 = up u.1 40 3 (nI (a + wMx z a 7)) := ⟨_, rfl⟩
        have hI : Iv E s H locs (c3, u.2) := by rw [ec3]; exact hI
        refine lv_iload_n hx hy dX6_readsWord_74 rfl (lv_at hl 0 rfl) ?_
        exact rI hQ F (v := c3) hI dX6_readsWord_75 ⟨rfl, ec3⟩
      · have h2 : k < 7 := Nat.lt_of_not_le (fun q9 => h2 ((nI_leI (a := 7) (b := k) (by omega) (by omega)).mpr q9))
        refine lv_aload_n hx hy dX6_readsWord_13 rfl (lv_at hl 3 rfl) ?_
        refine lv_aload_n hx hy dX6_readsWord_14 rfl (lv_at hl 3 rfl) ?_
        refine gX6_words F hI L_X6_22 dX6_readsWord_15 ?_
        refine lv_iload_n hx hy dX6_readsWord_18 rfl (lv_at hl 0 rfl) ?_
        refine aWl F hI (i := k) (by omega) dX6_readsWord_19 ?_
        refine zI hI (xV F hI hl (kX6_likeness l E (u) hT k (by omega)) M_X6_150 (rX6 F hI) rfl ⟨Nat.le_of_ble_eq_true rfl, Nat.le_of_ble_eq_true rfl⟩ ⟨Nat.zero_le _, Nat.zero_le _⟩ rfl (Nat.le_of_ble_eq_true rfl) dX6_readsWord_20) (fun r5 v6 H locs hI hp4 => ?_)
        subst hp4
        refine lv_istore (lv' := [(4, .int (nI (mt z a k))), (3, .int (nI k)), (2, .int (wWd z a k)), (1, .int (nI (wMx z a k))), (0, .ref (eA E 48))]) hx hy dX6_readsWord_23 hl (by decide) rfl (fun ls hl => ?_)
        refine lv_iload hx hy dX6_readsWord_25 (lv_at hl 0 rfl) ?_
        refine lv_iload_n hx hy dX6_readsWord_27 rfl (lv_at hl 3 rfl) ?_
        refine lv_icmp_le (tgt := 36) hx hy dX6_readsWord_28 (by decide) (fun h7 => ?_) (fun h7 => ?_)
        · have h7 : mt z a k ≤ wMx z a k := (nI_leI (a := mt z a k) (b := wMx z a k) (by have h1 := mt_le z a k; have h2 := lnW_pos k (by omega); have h3 := wMx_le (z := z) (a := a) k (by omega); omega) (by have h1 := mt_le z a k; have h2 := lnW_pos k (by omega); have h3 := wMx_le (z := z) (a := a) k (by omega); omega)).mp h7
          refine lv_iload_n hx hy dX6_readsWord_36 rfl (lv_at hl 3 rfl) ?_
          refine lv_istore_n (lv' := [(1, .int (nI (wMx z a k))), (4, .int (nI (mt z a k))), (3, .int (nI k)), (2, .int (wWd z a k)), (0, .ref (eA E 48))]) hx hy dX6_readsWord_37 rfl hl (by decide) rfl (fun ls hl => ?_)
          refine lv_iload hx hy dX6_readsWord_38 (lv_at hl 1 rfl) ?_
          refine lv_aload_n hx hy dX6_readsWord_40 rfl (lv_at hl 4 rfl) ?_
          refine gX6_words F hI L_X6_22 dX6_readsWord_41 ?_
          refine lv_iload_n hx hy dX6_readsWord_44 rfl (lv_at hl 2 rfl) ?_
          refine aWl F hI (i := k) (by omega) dX6_readsWord_45 ?_
          refine zI hI (xS F hI hl (kX6_sizeOf l E (u) k (by omega)) M_X6_143 rfl ⟨Nat.le_of_ble_eq_true rfl, Nat.le_of_ble_eq_true rfl⟩ ⟨Nat.zero_le _, Nat.zero_le _⟩ rfl (Nat.le_of_ble_eq_true rfl) dX6_readsWord_46) (fun r9 v10 H locs hI hp8 => ?_)
          subst hp8
          refine lv_icmp_ne (tgt := 56) hx hy dX6_readsWord_49 (by decide) (fun h11 => ?_) (fun h11 => ?_)
          · have h11 : mt z a k ≠ lnW k := fun q9 => h11 ((nI_eq (a := mt z a k) (b := lnW k) (by have h1 := mt_le z a k; have h2 := lnW_pos k (by omega); have h3 := wMx_le (z := z) (a := a) k (by omega); omega) (by have h1 := mt_le z a k; have h2 := lnW_pos k (by omega); have h3 := wMx_le (z := z) (a := a) k (by omega); omega)).mpr q9)
            refine lv_iload_n hx hy dX6_readsWord_56 rfl (lv_at hl 3 rfl) ?_
            refine lv_istore_n (lv' := [(2, .int (wWd z a k)), (1, .int (nI (wMx z a k))), (4, .int (nI (mt z a k))), (3, .int (nI k)), (0, .ref (eA E 48))]) hx hy dX6_readsWord_57 rfl hl (by decide) rfl (fun ls hl => ?_)
            have e6 : wMx z a (k + 1) = wMx z a k := if_neg (by omega)
            have e7 : wWd z a (k + 1) = wWd z a k := if_neg (by omega)
            have hl : lv_has ls 5 [(2, .int (wWd z a (k + 1))), (1, .int (nI (wMx z a (k + 1)))), (4, .int (nI (mt z a k))), (3, .int (nI k)), (0, .ref (eA E 48))] := by rw [e6, e7]; exact hl
            refine lv_iinc (v := nI (k + 1)) (lv' := [(3, .int (nI (k + 1))), (2, .int (wWd z a (k + 1))), (1, .int (nI (wMx z a (k + 1)))), (4, .int (nI (mt z a k))), (0, .ref (eA E 48))]) hx hy dX6_readsWord_58 hl (k := 3) rfl (nI_add (k) 1) (by decide) rfl (fun ls hl => ?_)
            refine lv_goto (tgt := 7) hx hy dX6_readsWord_61 (by decide) ?_
            exact ih_7 (k + 1) (by omega) (by omega) _ _ _ hI (lv_sub hl [0, 1, 2, 4] rfl)
          · have h11 : mt z a k = lnW k := (nI_eq (a := mt z a k) (b := lnW k) (by have h1 := mt_le z a k; have h2 := lnW_pos k (by omega); have h3 := wMx_le (z := z) (a := a) k (by omega); omega) (by have h1 := mt_le z a k; have h2 := lnW_pos k (by omega); have h3 := wMx_le (z := z) (a := a) k (by omega); omega)).mp h11
            refine lv_iload_n hx hy dX6_readsWord_52 rfl (lv_at hl 2 rfl) ?_
            refine lv_goto (tgt := 57) hx hy dX6_readsWord_53 (by decide) ?_
            refine lv_istore_n (lv' := [(2, .int (nI k)), (1, .int (nI (wMx z a k))), (4, .int (nI (mt z a k))), (3, .int (nI k)), (0, .ref (eA E 48))]) hx hy dX6_readsWord_57 rfl hl (by decide) rfl (fun ls hl => ?_)
            have e6 : wMx z a (k + 1) = wMx z a k := if_neg (by omega)
            have e7 : wWd z a (k + 1) = nI k := if_pos (by omega)
            have hl : lv_has ls 5 [(2, .int (wWd z a (k + 1))), (1, .int (nI (wMx z a (k + 1)))), (4, .int (nI (mt z a k))), (3, .int (nI k)), (0, .ref (eA E 48))] := by rw [e6, e7]; exact hl
            refine lv_iinc (v := nI (k + 1)) (lv' := [(3, .int (nI (k + 1))), (2, .int (wWd z a (k + 1))), (1, .int (nI (wMx z a (k + 1)))), (4, .int (nI (mt z a k))), (0, .ref (eA E 48))]) hx hy dX6_readsWord_58 hl (k := 3) rfl (nI_add (k) 1) (by decide) rfl (fun ls hl => ?_)
            refine lv_goto (tgt := 7) hx hy dX6_readsWord_61 (by decide) ?_
            exact ih_7 (k + 1) (by omega) (by omega) _ _ _ hI (lv_sub hl [0, 1, 2, 4] rfl)
        · have h7 : wMx z a k < mt z a k := Nat.lt_of_not_le (fun q9 => h7 ((nI_leI (a := mt z a k) (b := wMx z a k) (by have h1 := mt_le z a k; have h2 := lnW_pos k (by omega); have h3 := wMx_le (z := z) (a := a) k (by omega); omega) (by have h1 := mt_le z a k; have h2 := lnW_pos k (by omega); have h3 := wMx_le (z := z) (a := a) k (by omega); omega)).mpr q9))
          refine lv_iload hx hy dX6_readsWord_31 (lv_at hl 0 rfl) ?_
          refine lv_goto (tgt := 37) hx hy dX6_readsWord_33 (by decide) ?_
          refine lv_istore_n (lv' := [(1, .int (nI (mt z a k))), (4, .int (nI (mt z a k))), (3, .int (nI k)), (2, .int (wWd z a k)), (0, .ref (eA E 48))]) hx hy dX6_readsWord_37 rfl hl (by decide) rfl (fun ls hl => ?_)
          refine lv_iload hx hy dX6_readsWord_38 (lv_at hl 1 rfl) ?_
          refine lv_aload_n hx hy dX6_readsWord_40 rfl (lv_at hl 4 rfl) ?_
          refine gX6_words F hI L_X6_22 dX6_readsWord_41 ?_
          refine lv_iload_n hx hy dX6_readsWord_44 rfl (lv_at hl 2 rfl) ?_
          refine aWl F hI (i := k) (by omega) dX6_readsWord_45 ?_
          refine zI hI (xS F hI hl (kX6_sizeOf l E (u) k (by omega)) M_X6_143 rfl ⟨Nat.le_of_ble_eq_true rfl, Nat.le_of_ble_eq_true rfl⟩ ⟨Nat.zero_le _, Nat.zero_le _⟩ rfl (Nat.le_of_ble_eq_true rfl) dX6_readsWord_46) (fun r13 v14 H locs hI hp12 => ?_)
          subst hp12
          refine lv_icmp_ne (tgt := 56) hx hy dX6_readsWord_49 (by decide) (fun h15 => ?_) (fun h15 => ?_)
          · have h15 : mt z a k ≠ lnW k := fun q9 => h15 ((nI_eq (a := mt z a k) (b := lnW k) (by have h1 := mt_le z a k; have h2 := lnW_pos k (by omega); have h3 := wMx_le (z := z) (a := a) k (by omega); omega) (by have h1 := mt_le z a k; have h2 := lnW_pos k (by omega); have h3 := wMx_le (z := z) (a := a) k (by omega); omega)).mpr q9)
            refine lv_iload_n hx hy dX6_readsWord_56 rfl (lv_at hl 3 rfl) ?_
            refine lv_istore_n (lv' := [(2, .int (wWd z a k)), (1, .int (nI (mt z a k))), (4, .int (nI (mt z a k))), (3, .int (nI k)), (0, .ref (eA E 48))]) hx hy dX6_readsWord_57 rfl hl (by decide) rfl (fun ls hl => ?_)
            have e6 : wMx z a (k + 1) = mt z a k := if_pos (by omega)
            have e7 : wWd z a (k + 1) = wWd z a k := if_neg (by omega)
            have hl : lv_has ls 5 [(2, .int (wWd z a (k + 1))), (1, .int (nI (wMx z a (k + 1)))), (4, .int (nI (mt z a k))), (3, .int (nI k)), (0, .ref (eA E 48))] := by rw [e6, e7]; exact hl
            refine lv_iinc (v := nI (k + 1)) (lv' := [(3, .int (nI (k + 1))), (2, .int (wWd z a (k + 1))), (1, .int (nI (wMx z a (k + 1)))), (4, .int (nI (mt z a k))), (0, .ref (eA E 48))]) hx hy dX6_readsWord_58 hl (k := 3) rfl (nI_add (k) 1) (by decide) rfl (fun ls hl => ?_)
            refine lv_goto (tgt := 7) hx hy dX6_readsWord_61 (by decide) ?_
            exact ih_7 (k + 1) (by omega) (by omega) _ _ _ hI (lv_sub hl [0, 1, 2, 4] rfl)
          · have h15 : mt z a k = lnW k := (nI_eq (a := mt z a k) (b := lnW k) (by have h1 := mt_le z a k; have h2 := lnW_pos k (by omega); have h3 := wMx_le (z := z) (a := a) k (by omega); omega) (by have h1 := mt_le z a k; have h2 := lnW_pos k (by omega); have h3 := wMx_le (z := z) (a := a) k (by omega); omega)).mp h15
            refine lv_iload_n hx hy dX6_readsWord_52 rfl (lv_at hl 2 rfl) ?_
            refine lv_goto (tgt := 57) hx hy dX6_readsWord_53 (by decide) ?_
            refine lv_istore_n (lv' := [(2, .int (nI k)), (1, .int (nI (mt z a k))), (4, .int (nI (mt z a k))), (3, .int (nI k)), (0, .ref (eA E 48))]) hx hy dX6_readsWord_57 rfl hl (by decide) rfl (fun ls hl => ?_)
            have e6 : wMx z a (k + 1) = mt z a k := if_pos (by omega)
            have e7 : wWd z a (k + 1) = nI k := if_pos (by omega)
            have hl : lv_has ls 5 [(2, .int (wWd z a (k + 1))), (1, .int (nI (wMx z a (k + 1)))), (4, .int (nI (mt z a k))), (3, .int (nI k)), (0, .ref (eA E 48))] := by rw [e6, e7]; exact hl
            refine lv_iinc (v := nI (k + 1)) (lv' := [(3, .int (nI (k + 1))), (2, .int (wWd z a (k + 1))), (1, .int (nI (wMx z a (k + 1)))), (4, .int (nI (mt z a k))), (0, .ref (eA E 48))]) hx hy dX6_readsWord_58 hl (k := 3) rfl (nI_add (k) 1) (by decide) rfl (fun ls hl => ?_)
            refine lv_goto (tgt := 7) hx hy dX6_readsWord_61 (by decide) ?_
            exact ih_7 (k + 1) (by omega) (by omega) _ _ _ hI (lv_sub hl [0, 1, 2, 4] rfl)
  exact lp1 8 0 (by omega) (by omega) _ _ _ hI (lv_sub hl [0, 1, 2, 3] rfl)
set_option maxHeartbeats 400000 in
set_option maxRecDepth 100000 in
theorem kX6_isHere (l : Launch) (E : EV) (u : SS) {z : Tx} {a : Nat} (hT : TxS u.1 z a) (lo mo : Nat) (hlo : lo < 65536) (hmo : mo < 65536) : CT l yX6_isHere cX6_isHere 3 (some .boolean) (Rm 1 25) [.ref (eA E 48), .int (nI lo), .int (nI mo)] E u (Q_i E (fun r _ => r = if a < z.1 ∧ lo ≤ z.2 a ∧ z.2 a ≤ mo then 1 else 0) (fun (_ : Unit) => u)) := by
  refine mstart RX6 (by decide +kernel) rfl (Nat.le_of_ble_eq_true rfl) ?_
  intro p e s m args below meth co ls Q hQ F hI hl
  have hx := F.1
  have hy := F.2.1
  have hl : lv_has ls 3 [(0, .ref (eA E 48)), (1, .int (nI lo)), (2, .int (nI mo))] := hl
  have ht80 := hT.2.1
  have haz := hT.2.2.2.2
  refine lv_aload_n hx hy dX6_isHere_0 rfl (lv_at hl 0 rfl) ?_
  refine gX6_spot F hI L_X6_147 dX6_isHere_1 ?_
  refine tI hT.2.2.2.1 ?_
  refine lv_aload_n hx hy dX6_isHere_4 rfl (lv_at hl 0 rfl) ?_
  refine gX6_textLong F hI L_X6_140 dX6_isHere_5 ?_
  refine tI hT.1.1 ?_
  refine lv_icmp_ge (tgt := 35) hx hy dX6_isHere_8 (by decide) (fun h1 => ?_) (fun h1 => ?_)
  · have h1 : z.1 ≤ a := (nI_leI (a := z.1) (b := a) (by omega) (by omega)).mp h1
    refine lv_iconst (v := nI 0) hx hy dX6_isHere_35 (by decide) ?_
    exact rZ hQ F (v := ()) rfl hI dX6_isHere_36 (if_neg (fun q9 => absurd q9.1 (by omega))).symm
  · have h1 : a < z.1 := Nat.lt_of_not_le (fun q9 => h1 ((nI_leI (a := z.1) (b := a) (by omega) (by omega)).mpr q9))
    refine lv_aload_n hx hy dX6_isHere_11 rfl (lv_at hl 0 rfl) ?_
    refine gX6_text F hI L_X6_35 dX6_isHere_12 ?_
    refine lv_aload_n hx hy dX6_isHere_15 rfl (lv_at hl 0 rfl) ?_
    refine gX6_spot F hI L_X6_147 dX6_isHere_16 ?_
    refine tI hT.2.2.2.1 ?_
    refine aIlN F hI iX6_text (i := a) (by omega) (by decide) dX6_isHere_19 ?_
    refine tI (hT.1.2 a (by omega)) ?_
    have hzl := hT.2.2.1 a (by omega)
    refine lv_i2l (v := lN (z.2 a)) hx hy dX6_isHere_20 (nI_l (by omega)) ?_
    refine lv_iload_n hx hy dX6_isHere_21 rfl (lv_at hl 1 rfl) ?_
    refine lv_i2l (v := lN (lo)) hx hy dX6_isHere_22 (nI_l (by omega)) ?_
    refine lv_iload_n hx hy dX6_isHere_23 rfl (lv_at hl 2 rfl) ?_
    refine lv_i2l (v := lN (mo)) hx hy dX6_isHere_24 (nI_l (by omega)) ?_
    refine zI hI (xS F hI hl (kX6_in l E (u) (lN (z.2 a)) (lN (lo)) (lN (mo))) M_X6_65 rfl ⟨Nat.le_of_ble_eq_true rfl, Nat.le_of_ble_eq_true rfl⟩ ⟨Nat.zero_le _, Nat.zero_le _⟩ rfl (Nat.le_of_ble_eq_true rfl) dX6_isHere_25) (fun r3 v4 H locs hI hp2 => ?_)
    by_cases hb5 : (lo ≤ z.2 a ∧ z.2 a ≤ mo)
    · have hp2 : r3 = 1 := hp2.trans (if_pos ⟨(lNle (a := lo) (b := z.2 a) (by omega) (by omega)).mpr hb5.1, (lNle (a := z.2 a) (b := mo) (by omega) (by omega)).mpr hb5.2⟩)
      subst hp2
      refine lv_if_eq (tgt := 35) hx hy dX6_isHere_28 (by decide) (fun q => absurd q (by decide)) (fun _ => ?_)
      refine lv_iconst (v := nI 1) hx hy dX6_isHere_31 (by decide) ?_
      refine lv_goto (tgt := 36) hx hy dX6_isHere_32 (by decide) ?_
      exact rZ hQ F (v := ()) rfl hI dX6_isHere_36 (if_pos ⟨h1, hb5⟩).symm
    · have hp2 : r3 = 0 := hp2.trans (if_neg (fun q9 => hb5 ⟨(lNle (a := lo) (b := z.2 a) (by omega) (by omega)).mp q9.1, (lNle (a := z.2 a) (b := mo) (by omega) (by omega)).mp q9.2⟩))
      subst hp2
      refine lv_if_eq (tgt := 35) hx hy dX6_isHere_28 (by decide) (fun _ => ?_) (fun q => absurd q (by decide))
      refine lv_iconst (v := nI 0) hx hy dX6_isHere_35 (by decide) ?_
      exact rZ hQ F (v := ()) rfl hI dX6_isHere_36 (if_neg (fun q9 => hb5 q9.2)).symm
set_option maxHeartbeats 400000 in
set_option maxRecDepth 100000 in
theorem kX6_takes (l : Launch) (E : EV) (u : SS) {z : Tx} {a : Nat} (hT : TxS u.1 z a) (ch : Nat) (hc : ch < 65536) : CT l yX6_takes cX6_takes 3 (some .boolean) (Rm 2 47) [.ref (eA E 48), .int (nI ch)] E u (Q_i E (fun r c => if a < z.1 ∧ z.2 a = ch then r = 1 ∧ c = up u.1 40 3 (nI (a + 1)) else r = 0 ∧ c = u.1) (fun (c : CF) => (c, u.2))) := by
  refine mstart RX6 (by decide +kernel) rfl (Nat.le_of_ble_eq_true rfl) ?_
  intro p e s m args below meth co ls Q hQ F hI hl
  have hx := F.1
  have hy := F.2.1
  have hl : lv_has ls 3 [(0, .ref (eA E 48)), (1, .int (nI ch))] := hl
  have ht80 := hT.2.1
  have haz := hT.2.2.2.2
  refine lv_aload_n hx hy dX6_takes_0 rfl (lv_at hl 0 rfl) ?_
  refine lv_iload_n hx hy dX6_takes_1 rfl (lv_at hl 1 rfl) ?_
  refine lv_iload_n hx hy dX6_takes_2 rfl (lv_at hl 1 rfl) ?_
  refine zI hI (xV F hI hl (kX6_isHere l E (u) hT (ch) (ch) (by omega) (by omega)) M_X6_153 (rX6 F hI) rfl ⟨Nat.le_of_ble_eq_true rfl, Nat.le_of_ble_eq_true rfl⟩ ⟨Nat.zero_le _, Nat.zero_le _⟩ rfl (Nat.le_of_ble_eq_true rfl) dX6_takes_3) (fun r2 v3 H locs hI hp1 => ?_)
  by_cases hb4 : a < z.1 ∧ ch ≤ z.2 a ∧ z.2 a ≤ ch
  · rw [if_pos hb4] at hp1
    subst hp1
    refine lv_istore_n (lv' := [(2, .int (nI 1)), (0, .ref (eA E 48)), (1, .int (nI ch))]) hx hy dX6_takes_6 rfl hl (by decide) rfl (fun ls hl => ?_)
    refine lv_aload_n hx hy dX6_takes_7 rfl (lv_at hl 1 rfl) ?_
    refine lv_dup hx hy dX6_takes_8 rfl ?_
    refine gX6_spot F hI L_X6_147 dX6_takes_9 ?_
    refine tI hT.2.2.2.1 ?_
    refine lv_iload_n hx hy dX6_takes_12 rfl (lv_at hl 0 rfl) ?_
    refine lv_if_eq (tgt := 20) hx hy dX6_takes_13 (by decide) (fun q => absurd q (by decide)) (fun _ => ?_)
    refine lv_iconst (v := nI 1) hx hy dX6_takes_16 (by decide) ?_
    refine lv_goto (tgt := 21) hx hy dX6_takes_17 (by decide) ?_
    refine lv_iadd hx hy dX6_takes_21 ?_
    refine tI (nI_add (a) (1)) ?_
    refine pX6_spot F hI L_X6_147 dX6_takes_22 (fun H locs hI => ?_)
    obtain ⟨c5, ec5⟩ : ∃ z9 : CF, z9 = up u.1 40 3 (nI (a + 1)) := ⟨_, rfl⟩
    have hI : Iv E s H locs (c5, u.2) := by rw [ec5]; exact hI
    refine lv_iload_n hx hy dX6_takes_25 rfl (lv_at hl 0 rfl) ?_
    exact rZ hQ F (v := c5) rfl hI dX6_takes_26 (by rw [if_pos ⟨hb4.1, by omega⟩]; exact ⟨rfl, ec5⟩)
  · rw [if_neg hb4] at hp1
    subst hp1
    refine lv_istore_n (lv' := [(2, .int (nI 0)), (0, .ref (eA E 48)), (1, .int (nI ch))]) hx hy dX6_takes_6 rfl hl (by decide) rfl (fun ls hl => ?_)
    refine lv_aload_n hx hy dX6_takes_7 rfl (lv_at hl 1 rfl) ?_
    refine lv_dup hx hy dX6_takes_8 rfl ?_
    refine gX6_spot F hI L_X6_147 dX6_takes_9 ?_
    refine tI hT.2.2.2.1 ?_
    refine lv_iload_n hx hy dX6_takes_12 rfl (lv_at hl 0 rfl) ?_
    refine lv_if_eq (tgt := 20) hx hy dX6_takes_13 (by decide) (fun _ => ?_) (fun q => absurd q (by decide))
    refine lv_iconst (v := nI 0) hx hy dX6_takes_20 (by decide) ?_
    refine lv_iadd hx hy dX6_takes_21 ?_
    refine tI (nI_add (a) (0)) ?_
    refine pX6_spot F hI L_X6_147 dX6_takes_22 (fun H locs hI => ?_)
    obtain ⟨c6, ec6⟩ : ∃ z9 : CF, z9 = up u.1 40 3 (nI (a + 0)) := ⟨_, rfl⟩
    have hI : Iv E s H locs (c6, u.2) := by rw [ec6]; exact hI
    refine lv_iload_n hx hy dX6_takes_25 rfl (lv_at hl 0 rfl) ?_
    exact rZ hQ F (v := c6) rfl hI dX6_takes_26 (by rw [if_neg (fun q9 => hb4 ⟨q9.1, by omega, by omega⟩)]; exact ⟨rfl, by rw [ec6]; exact up_self _ _ _ _ hT.2.2.2.1⟩)
