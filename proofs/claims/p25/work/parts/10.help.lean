set_option maxHeartbeats 400000 in
set_option maxRecDepth 100000 in
theorem kX5_elementAt (l : Launch) (E : EV) (u : SS) {k r n : Nat} (h : IsI k r n) (hn : n < 2 ^ 31) (x : Int32) : CT l yX5_elementAt cX5_elementAt 2 (some .int) (Rm 0 0) [.ref (eA E k), .int (x)] E u (Q_i E (fun r0 _ => r0 = el n (u.1 r) x) (fun (_ : Unit) => u)) := by
  refine mstart RX5 (by decide +kernel) rfl (Nat.le_of_ble_eq_true rfl) ?_
  intro p e s m args below meth co ls Q hQ F hI hl
  have hx := F.1
  have hy := F.2.1
  have hl : lv_has ls 2 [(0, .ref (eA E k)), (1, .int (x))] := hl
  refine lv_iload_n hx hy dX5_elementAt_0 rfl (lv_at hl 1 rfl) ?_
  refine lv_if_lt (tgt := 10) hx hy dX5_elementAt_1 (by decide) (fun h1 => ?_) (fun h1 => ?_)
  · refine lv_iconst (v := nI 0) hx hy dX5_elementAt_10 (by decide) ?_
    refine lv_goto (tgt := 17) hx hy dX5_elementAt_11 (by decide) ?_
    exact rI hQ F (v := ()) hI dX5_elementAt_17 (if_pos (Or.inl h1)).symm
  · refine lv_iload_n hx hy dX5_elementAt_4 rfl (lv_at hl 1 rfl) ?_
    refine lv_aload_n hx hy dX5_elementAt_5 rfl (lv_at hl 0 rfl) ?_
    refine aIn F hI h dX5_elementAt_6 ?_
    refine lv_icmp_lt (tgt := 14) hx hy dX5_elementAt_7 (by decide) (fun h2 => ?_) (fun h2 => ?_)
    · refine lv_aload_n hx hy dX5_elementAt_14 rfl (lv_at hl 0 rfl) ?_
      refine lv_iload_n hx hy dX5_elementAt_15 rfl (lv_at hl 1 rfl) ?_
      refine aIl F hI h (vp_lt h1 h2 hn) dX5_elementAt_16 ?_
      exact rI hQ F (v := ()) hI dX5_elementAt_17 (if_neg (fun q => q.elim h1 (nle_lt h2))).symm
    · refine lv_iconst (v := nI 0) hx hy dX5_elementAt_10 (by decide) ?_
      refine lv_goto (tgt := 17) hx hy dX5_elementAt_11 (by decide) ?_
      exact rI hQ F (v := ()) hI dX5_elementAt_17 (if_pos (Or.inr (nlt_le h2))).symm
set_option maxHeartbeats 400000 in
set_option maxRecDepth 100000 in
theorem kX5_elementAt_t0 (l : Launch) (E : EV) (u : SS) (k : Nat) (hk : k < 7) : CT l yX5_elementAt cX5_elementAt 2 (some .int) (Rm 0 0) [.ref (eS E 0), .int (nI k)] E u (Q_i E (fun r0 _ => r0 = tblF 0 k) (fun (_ : Unit) => u)) := by
  refine mstart RX5 (by decide +kernel) rfl (Nat.le_of_ble_eq_true rfl) ?_
  intro p e s m args below meth co ls Q hQ F hI hl
  have hx := F.1
  have hy := F.2.1
  have hl : lv_has ls 2 [(0, .ref (eS E 0)), (1, .int (nI k))] := hl
  refine lv_iload_n hx hy dX5_elementAt_0 rfl (lv_at hl 1 rfl) ?_
  refine lv_if_lt (tgt := 10) hx hy dX5_elementAt_1 (by decide) (fun h1 => ?_) (fun h1 => ?_)
  · have h1 : k < 0 := (nI_ltI (a := k) (b := 0) (by omega) (by omega)).mp h1
    exact absurd h1 (by omega)
  · have h1 : 0 ≤ k := Nat.le_of_not_lt (fun q9 => h1 ((nI_ltI (a := k) (b := 0) (by omega) (by omega)).mpr q9))
    refine lv_iload_n hx hy dX5_elementAt_4 rfl (lv_at hl 1 rfl) ?_
    refine lv_aload_n hx hy dX5_elementAt_5 rfl (lv_at hl 0 rfl) ?_
    refine nT0 F hI dX5_elementAt_6 ?_
    refine lv_icmp_lt (tgt := 14) hx hy dX5_elementAt_7 (by decide) (fun h2 => ?_) (fun h2 => ?_)
    · have h2 : k < 7 := (nI_ltI (a := k) (b := 7) (by omega) (by omega)).mp h2
      refine lv_aload_n hx hy dX5_elementAt_14 rfl (lv_at hl 0 rfl) ?_
      refine lv_iload_n hx hy dX5_elementAt_15 rfl (lv_at hl 1 rfl) ?_
      refine tT0 F hI (i := k) (by omega) dX5_elementAt_16 ?_
      exact rI hQ F (v := ()) hI dX5_elementAt_17 rfl
    · have h2 : 7 ≤ k := Nat.le_of_not_lt (fun q9 => h2 ((nI_ltI (a := k) (b := 7) (by omega) (by omega)).mpr q9))
      exact absurd h2 (by omega)
set_option maxHeartbeats 400000 in
set_option maxRecDepth 100000 in
theorem kX5_elementAt_t1 (l : Launch) (E : EV) (u : SS) (k : Nat) (hk : k < 7) : CT l yX5_elementAt cX5_elementAt 2 (some .int) (Rm 0 0) [.ref (eS E 1), .int (nI k)] E u (Q_i E (fun r0 _ => r0 = tblF 1 k) (fun (_ : Unit) => u)) := by
  refine mstart RX5 (by decide +kernel) rfl (Nat.le_of_ble_eq_true rfl) ?_
  intro p e s m args below meth co ls Q hQ F hI hl
  have hx := F.1
  have hy := F.2.1
  have hl : lv_has ls 2 [(0, .ref (eS E 1)), (1, .int (nI k))] := hl
  refine lv_iload_n hx hy dX5_elementAt_0 rfl (lv_at hl 1 rfl) ?_
  refine lv_if_lt (tgt := 10) hx hy dX5_elementAt_1 (by decide) (fun h1 => ?_) (fun h1 => ?_)
  · have h1 : k < 0 := (nI_ltI (a := k) (b := 0) (by omega) (by omega)).mp h1
    exact absurd h1 (by omega)
  · have h1 : 0 ≤ k := Nat.le_of_not_lt (fun q9 => h1 ((nI_ltI (a := k) (b := 0) (by omega) (by omega)).mpr q9))
    refine lv_iload_n hx hy dX5_elementAt_4 rfl (lv_at hl 1 rfl) ?_
    refine lv_aload_n hx hy dX5_elementAt_5 rfl (lv_at hl 0 rfl) ?_
    refine nT1 F hI dX5_elementAt_6 ?_
    refine lv_icmp_lt (tgt := 14) hx hy dX5_elementAt_7 (by decide) (fun h2 => ?_) (fun h2 => ?_)
    · have h2 : k < 7 := (nI_ltI (a := k) (b := 7) (by omega) (by omega)).mp h2
      refine lv_aload_n hx hy dX5_elementAt_14 rfl (lv_at hl 0 rfl) ?_
      refine lv_iload_n hx hy dX5_elementAt_15 rfl (lv_at hl 1 rfl) ?_
      refine tT1 F hI (i := k) (by omega) dX5_elementAt_16 ?_
      exact rI hQ F (v := ()) hI dX5_elementAt_17 rfl
    · have h2 : 7 ≤ k := Nat.le_of_not_lt (fun q9 => h2 ((nI_ltI (a := k) (b := 7) (by omega) (by omega)).mpr q9))
      exact absurd h2 (by omega)
set_option maxHeartbeats 400000 in
set_option maxRecDepth 100000 in
theorem kX5_setElement (l : Launch) (E : EV) (u : SS) {k r n : Nat} (h : IsI k r n) (hn : n < 2 ^ 31) (x v : Int32) : CT l yX5_setElement cX5_setElement 3 none (Rm 0 0) [.ref (eA E k), .int (x), .int (v)] E u (Q_v E (fun c => c = stE u.1 r n x v) (fun (c : CF) => (c, u.2))) := by
  refine mstart RX5 (by decide +kernel) rfl (Nat.le_of_ble_eq_true rfl) ?_
  intro p e s m args below meth co ls Q hQ F hI hl
  have hx := F.1
  have hy := F.2.1
  have hl : lv_has ls 3 [(0, .ref (eA E k)), (1, .int (x)), (2, .int (v))] := hl
  refine lv_iload_n hx hy dX5_setElement_0 rfl (lv_at hl 1 rfl) ?_
  refine lv_if_lt (tgt := 14) hx hy dX5_setElement_1 (by decide) (fun h1 => ?_) (fun h1 => ?_)
  · exact rV hQ F (v := u.1) hI dX5_setElement_14 (if_pos (Or.inl h1)).symm
  · refine lv_iload_n hx hy dX5_setElement_4 rfl (lv_at hl 1 rfl) ?_
    refine lv_aload_n hx hy dX5_setElement_5 rfl (lv_at hl 0 rfl) ?_
    refine aIn F hI h dX5_setElement_6 ?_
    refine lv_icmp_ge (tgt := 14) hx hy dX5_setElement_7 (by decide) (fun h2 => ?_) (fun h2 => ?_)
    · exact rV hQ F (v := u.1) hI dX5_setElement_14 (if_pos (Or.inr h2)).symm
    · refine lv_aload_n hx hy dX5_setElement_10 rfl (lv_at hl 0 rfl) ?_
      refine lv_iload_n hx hy dX5_setElement_11 rfl (lv_at hl 1 rfl) ?_
      refine lv_iload_n hx hy dX5_setElement_12 rfl (lv_at hl 2 rfl) ?_
      refine aIs F hI h (vp_lt h1 (nle_lt' h2) hn) dX5_setElement_13 (fun H locs hI => ?_)
      obtain ⟨c3, ec3⟩ : ∃ z9 : CF, z9 = up u.1 r (Int32.toNatClampNeg x) (v) := ⟨_, rfl⟩
      have hI : Iv E s H locs (c3, u.2) := by rw [ec3]; exact hI
      exact rV hQ F (v := c3) hI dX5_setElement_14 (by rw [ec3]; exact (if_neg (fun q => q.elim h1 h2)).symm)
set_option maxHeartbeats 400000 in
set_option maxRecDepth 100000 in
theorem kX5_isWithin (l : Launch) (E : EV) (u : SS) (a b : Nat) (x : Int32) : CT l yX5_isWithin cX5_isWithin 3 (some .boolean) (Rm 0 0) [.int (x), .int (nI a), .int (nI b)] E u (Q_i E (fun r _ => r = if (rgO a b x).isSome = true then 1 else 0) (fun (_ : Unit) => u)) := by
  refine mstart RX5 (by decide +kernel) rfl (Nat.le_of_ble_eq_true rfl) ?_
  intro p e s m args below meth co ls Q hQ F hI hl
  have hx := F.1
  have hy := F.2.1
  have hl : lv_has ls 3 [(0, .int (x)), (1, .int (nI a)), (2, .int (nI b))] := hl
  refine lv_iload_n hx hy dX5_isWithin_0 rfl (lv_at hl 0 rfl) ?_
  refine lv_iload_n hx hy dX5_isWithin_1 rfl (lv_at hl 1 rfl) ?_
  refine lv_icmp_lt (tgt := 14) hx hy dX5_isWithin_2 (by decide) (fun h1 => ?_) (fun h1 => ?_)
  · refine lv_iconst (v := nI 0) hx hy dX5_isWithin_14 (by decide) ?_
    exact rZ hQ F (v := ()) rfl hI dX5_isWithin_15 (by rw [rgO_none (fun q => nle_lt h1 q.1)]; rfl)
  · refine lv_iload_n hx hy dX5_isWithin_5 rfl (lv_at hl 0 rfl) ?_
    refine lv_iload_n hx hy dX5_isWithin_6 rfl (lv_at hl 2 rfl) ?_
    refine lv_icmp_gt (tgt := 14) hx hy dX5_isWithin_7 (by decide) (fun h2 => ?_) (fun h2 => ?_)
    · refine lv_iconst (v := nI 0) hx hy dX5_isWithin_14 (by decide) ?_
      exact rZ hQ F (v := ()) rfl hI dX5_isWithin_15 (by rw [rgO_none (fun q => nle_lt h2 q.2)]; rfl)
    · refine lv_iconst (v := nI 1) hx hy dX5_isWithin_10 (by decide) ?_
      refine lv_goto (tgt := 15) hx hy dX5_isWithin_11 (by decide) ?_
      exact rZ hQ F (v := ()) rfl hI dX5_isWithin_15 (by rw [rgO, if_pos (And.intro (nlt_le h1) (nlt_le h2))]; rfl)
set_option maxHeartbeats 400000 in
set_option maxRecDepth 100000 in
theorem kX5_isShareAndSeed (l : Launch) (E : EV) (u : SS) (x y : Int32) : CT l yX5_isShareAndSeed cX5_isShareAndSeed 2 (some .boolean) (Rm 1 22) [.int (x), .int (y)] E u (Q_i E (fun r _ => r = if (rgO 0 256 x).isSome = true ∧ (rgO 1 255 y).isSome = true then 1 else 0) (fun (_ : Unit) => u)) := by
  refine mstart RX5 (by decide +kernel) rfl (Nat.le_of_ble_eq_true rfl) ?_
  intro p e s m args below meth co ls Q hQ F hI hl
  have hx := F.1
  have hy := F.2.1
  have hl : lv_has ls 2 [(0, .int (x)), (1, .int (y))] := hl
  refine lv_iload_n hx hy dX5_isShareAndSeed_0 rfl (lv_at hl 0 rfl) ?_
  refine lv_iconst (v := nI 0) hx hy dX5_isShareAndSeed_1 (by decide) ?_
  refine lv_sipush (v := nI 256) hx hy dX5_isShareAndSeed_2 (by decide) ?_
  refine zI hI (xS F hI hl (kX5_isWithin l E (u) 0 256 x) M_X5_68 rfl ⟨Nat.le_of_ble_eq_true rfl, Nat.le_of_ble_eq_true rfl⟩ ⟨Nat.zero_le _, Nat.zero_le _⟩ rfl (Nat.le_of_ble_eq_true rfl) dX5_isShareAndSeed_5) (fun r2 v3 H locs hI hp1 => ?_)
  by_cases hb4 : (rgO 0 256 x).isSome = true
  · rw [if_pos hb4] at hp1
    subst hp1
    refine lv_if_eq (tgt := 26) hx hy dX5_isShareAndSeed_8 (by decide) (fun q => absurd q (by decide)) (fun _ => ?_)
    refine lv_iload_n hx hy dX5_isShareAndSeed_11 rfl (lv_at hl 1 rfl) ?_
    refine lv_iconst (v := nI 1) hx hy dX5_isShareAndSeed_12 (by decide) ?_
    refine lv_sipush (v := nI 255) hx hy dX5_isShareAndSeed_13 (by decide) ?_
    refine zI hI (xS F hI hl (kX5_isWithin l E (u) 1 255 y) M_X5_68 rfl ⟨Nat.le_of_ble_eq_true rfl, Nat.le_of_ble_eq_true rfl⟩ ⟨Nat.zero_le _, Nat.zero_le _⟩ rfl (Nat.le_of_ble_eq_true rfl) dX5_isShareAndSeed_16) (fun r6 v7 H locs hI hp5 => ?_)
    by_cases hb8 : (rgO 1 255 y).isSome = true
    · rw [if_pos hb8] at hp5
      subst hp5
      refine lv_if_eq (tgt := 26) hx hy dX5_isShareAndSeed_19 (by decide) (fun q => absurd q (by decide)) (fun _ => ?_)
      refine lv_iconst (v := nI 1) hx hy dX5_isShareAndSeed_22 (by decide) ?_
      refine lv_goto (tgt := 27) hx hy dX5_isShareAndSeed_23 (by decide) ?_
      exact rZ hQ F (v := ()) rfl hI dX5_isShareAndSeed_27 (if_pos ⟨hb4, hb8⟩).symm
    · rw [if_neg hb8] at hp5
      subst hp5
      refine lv_if_eq (tgt := 26) hx hy dX5_isShareAndSeed_19 (by decide) (fun _ => ?_) (fun q => absurd q (by decide))
      refine lv_iconst (v := nI 0) hx hy dX5_isShareAndSeed_26 (by decide) ?_
      exact rZ hQ F (v := ()) rfl hI dX5_isShareAndSeed_27 (if_neg (fun q => hb8 q.2)).symm
  · rw [if_neg hb4] at hp1
    subst hp1
    refine lv_if_eq (tgt := 26) hx hy dX5_isShareAndSeed_8 (by decide) (fun _ => ?_) (fun q => absurd q (by decide))
    refine lv_iconst (v := nI 0) hx hy dX5_isShareAndSeed_26 (by decide) ?_
    exact rZ hQ F (v := ()) rfl hI dX5_isShareAndSeed_27 (if_neg (fun q => hb4 q.1)).symm
set_option maxHeartbeats 400000 in
set_option maxRecDepth 100000 in
theorem kX5_shareOf (l : Launch) (E : EV) (u : SS) (o t : Nat) (ho : o ≤ 1000) (ht : 1 ≤ t) (ht2 : t ≤ 1000) : CT l yX5_shareOf cX5_shareOf 2 (some .int) (Rm 0 0) [.int (nI o), .int (nI t)] E u (Q_i E (fun r _ => r = nI (o * 65536 / t)) (fun (_ : Unit) => u)) := by
  refine mstart RX5 (by decide +kernel) rfl (Nat.le_of_ble_eq_true rfl) ?_
  intro p e s m args below meth co ls Q hQ F hI hl
  have hx := F.1
  have hy := F.2.1
  have hl : lv_has ls 2 [(0, .int (nI o)), (1, .int (nI t))] := hl
  refine lv_iload_n hx hy dX5_shareOf_0 rfl (lv_at hl 1 rfl) ?_
  refine lv_iconst (v := nI 1) hx hy dX5_shareOf_1 (by decide) ?_
  refine lv_icmp_ge (tgt := 9) hx hy dX5_shareOf_2 (by decide) (fun h1 => ?_) (fun h1 => ?_)
  · have h1 : 1 ≤ t := (nI_leI (a := 1) (b := t) (by omega) (by omega)).mp h1
    refine lv_iload_n hx hy dX5_shareOf_9 rfl (lv_at hl 0 rfl) ?_
    refine zc F K_X5_170 dX5_shareOf_10 ?_
    refine tI (show _ = nI 65536 from rfl) ?_
    refine lv_imul hx hy dX5_shareOf_12 ?_
    refine tI (pk_mul (o) (65536)) ?_
    refine lv_iload_n hx hy dX5_shareOf_13 rfl (lv_at hl 1 rfl) ?_
    refine lv_idiv hx hy dX5_shareOf_14 (fun q => absurd ((nI_eq (by omega) (by omega)).mp (show nI (t) = nI 0 from q)) (by omega)) ?_
    refine tI (pk_div (a := o * 65536) (d := t) (by omega) (by omega) (by omega)) ?_
    exact rI hQ F (v := ()) hI dX5_shareOf_15 rfl
  · have h1 : t < 1 := Nat.lt_of_not_le (fun q9 => h1 ((nI_leI (a := 1) (b := t) (by omega) (by omega)).mpr q9))
    exact absurd h1 (by omega)
set_option maxHeartbeats 400000 in
set_option maxRecDepth 100000 in
theorem kX5_numbersOfKind (l : Launch) (E : EV) (u : SS) (k : Nat) (hk : k < 7) : CT l yX5_numbersOfKind cX5_numbersOfKind 1 (some .int) (Rm 1 21) [.int (nI k)] E u (Q_i E (fun r _ => r = tblF 0 k) (fun (_ : Unit) => u)) := by
  refine mstart RX5 (by decide +kernel) rfl (Nat.le_of_ble_eq_true rfl) ?_
  intro p e s m args below meth co ls Q hQ F hI hl
  have hx := F.1
  have hy := F.2.1
  have hl : lv_has ls 1 [(0, .int (nI k))] := hl
  refine gT0 F hI L_X5_213 dX5_numbersOfKind_0 ?_
  refine lv_iload_n hx hy dX5_numbersOfKind_3 rfl (lv_at hl 0 rfl) ?_
  refine zI hI (xS F hI hl (kX5_elementAt_t0 l E (u) k (by omega)) M_X5_217 rfl ⟨Nat.le_of_ble_eq_true rfl, Nat.le_of_ble_eq_true rfl⟩ ⟨Nat.zero_le _, Nat.zero_le _⟩ rfl (Nat.le_of_ble_eq_true rfl) dX5_numbersOfKind_4) (fun r2 v3 H locs hI hp1 => ?_)
  subst hp1
  exact rI hQ F (v := ()) hI dX5_numbersOfKind_7 rfl
set_option maxHeartbeats 400000 in
set_option maxRecDepth 100000 in
theorem kX5_linesOfKind (l : Launch) (E : EV) (u : SS) (k : Nat) (hk : k < 7) : CT l yX5_linesOfKind cX5_linesOfKind 1 (some .int) (Rm 1 21) [.int (nI k)] E u (Q_i E (fun r _ => r = tblF 1 k) (fun (_ : Unit) => u)) := by
  refine mstart RX5 (by decide +kernel) rfl (Nat.le_of_ble_eq_true rfl) ?_
  intro p e s m args below meth co ls Q hQ F hI hl
  have hx := F.1
  have hy := F.2.1
  have hl : lv_has ls 1 [(0, .int (nI k))] := hl
  refine gT1 F hI L_X5_221 dX5_linesOfKind_0 ?_
  refine lv_iload_n hx hy dX5_linesOfKind_3 rfl (lv_at hl 0 rfl) ?_
  refine zI hI (xS F hI hl (kX5_elementAt_t1 l E (u) k (by omega)) M_X5_217 rfl ⟨Nat.le_of_ble_eq_true rfl, Nat.le_of_ble_eq_true rfl⟩ ⟨Nat.zero_le _, Nat.zero_le _⟩ rfl (Nat.le_of_ble_eq_true rfl) dX5_linesOfKind_4) (fun r2 v3 H locs hI hp1 => ?_)
  subst hp1
  exact rI hQ F (v := ()) hI dX5_linesOfKind_7 rfl
