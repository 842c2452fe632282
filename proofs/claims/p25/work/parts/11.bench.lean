set_option maxHeartbeats 400000 in
set_option maxRecDepth 100000 in
theorem kX0_has (l : Launch) (E : EV) (u : SS) {b n : Nat} (hb : b < 7) (hn : u.1 2 b = nI n) (hn2 : n < 2 ^ 31) (x : Int32) : CT l yX0_has cX0_has 2 (some .boolean) (Rm 0 0) [.ref (eA E (10 + 3 * b)), .int (x)] E u (Q_i E (fun r _ => r = if (ixO n x).isSome = true then 1 else 0) (fun (_ : Unit) => u)) := by
  refine mstart RX0 (by decide +kernel) rfl (Nat.le_of_ble_eq_true rfl) ?_
  intro p e s m args below meth co ls Q hQ F hI hl
  have hx := F.1
  have hy := F.2.1
  have hl : lv_has ls 2 [(0, .ref (eA E (10 + 3 * b))), (1, .int (x))] := hl
  refine lv_iload_n hx hy dX0_has_0 rfl (lv_at hl 1 rfl) ?_
  refine lv_if_lt (tgt := 16) hx hy dX0_has_1 (by decide) (fun h1 => ?_) (fun h1 => ?_)
  · refine lv_iconst (v := nI 0) hx hy dX0_has_16 (by decide) ?_
    exact rZ hQ F (v := ()) rfl hI dX0_has_17 (by rw [ixO_none (fun q => nle_lt h1 q.1)]; rfl)
  · refine lv_iload_n hx hy dX0_has_4 rfl (lv_at hl 1 rfl) ?_
    refine lv_aload_n hx hy dX0_has_5 rfl (lv_at hl 0 rfl) ?_
    refine gX0_size F hI (b := b) hb L_X0_15 dX0_has_6 ?_
    refine tI hn ?_
    refine lv_icmp_ge (tgt := 16) hx hy dX0_has_9 (by decide) (fun h2 => ?_) (fun h2 => ?_)
    · refine lv_iconst (v := nI 0) hx hy dX0_has_16 (by decide) ?_
      exact rZ hQ F (v := ()) rfl hI dX0_has_17 (by rw [ixO_none (fun q => nlt_of h2 q.2)]; rfl)
    · refine lv_iconst (v := nI 1) hx hy dX0_has_12 (by decide) ?_
      refine lv_goto (tgt := 17) hx hy dX0_has_13 (by decide) ?_
      exact rZ hQ F (v := ()) rfl hI dX0_has_17 (by rw [ixO, if_pos (And.intro (nlt_le h1) (nle_lt' h2))]; rfl)
set_option maxHeartbeats 400000 in
set_option maxRecDepth 100000 in
theorem kX0_kindOf (l : Launch) (E : EV) (u : SS) {b : Nat} (hb : b < 7) (x : Int32) : CT l yX0_kindOf cX0_kindOf 2 (some .int) (Rm 1 21) [.ref (eA E (10 + 3 * b)), .int (x)] E u (Q_i E (fun r _ => r = el 16 (u.1 (20 + b)) x) (fun (_ : Unit) => u)) := by
  refine mstart RX0 (by decide +kernel) rfl (Nat.le_of_ble_eq_true rfl) ?_
  intro p e s m args below meth co ls Q hQ F hI hl
  have hx := F.1
  have hy := F.2.1
  have hl : lv_has ls 2 [(0, .ref (eA E (10 + 3 * b))), (1, .int (x))] := hl
  refine lv_aload_n hx hy dX0_kindOf_0 rfl (lv_at hl 0 rfl) ?_
  refine gX0_kinds F hI (b := b) hb L_X0_18 dX0_kindOf_1 ?_
  refine lv_iload_n hx hy dX0_kindOf_4 rfl (lv_at hl 1 rfl) ?_
  refine zI hI (xS F hI hl (kX5_elementAt l E (u) (iK hb) (by decide) x) M_X0_25 rfl ⟨Nat.le_of_ble_eq_true rfl, Nat.le_of_ble_eq_true rfl⟩ ⟨Nat.zero_le _, Nat.zero_le _⟩ rfl (Nat.le_of_ble_eq_true rfl) dX0_kindOf_5) (fun r2 v3 H locs hI hp1 => ?_)
  subst hp1
  exact rI hQ F (v := ()) hI dX0_kindOf_8 rfl
set_option maxHeartbeats 400000 in
set_option maxRecDepth 100000 in
theorem kX0_numberOf (l : Launch) (E : EV) (u : SS) {b : Nat} (hb : b < 7) (x w : Int32) : CT l yX0_numberOf cX0_numberOf 3 (some .int) (Rm 1 21) [.ref (eA E (10 + 3 * b)), .int (x), .int (w)] E u (Q_i E (fun r _ => r = el 48 (u.1 (30 + b)) (x * nI 3 + w - nI 1)) (fun (_ : Unit) => u)) := by
  refine mstart RX0 (by decide +kernel) rfl (Nat.le_of_ble_eq_true rfl) ?_
  intro p e s m args below meth co ls Q hQ F hI hl
  have hx := F.1
  have hy := F.2.1
  have hl : lv_has ls 3 [(0, .ref (eA E (10 + 3 * b))), (1, .int (x)), (2, .int (w))] := hl
  refine lv_aload_n hx hy dX0_numberOf_0 rfl (lv_at hl 0 rfl) ?_
  refine gX0_numbers F hI (b := b) hb L_X0_22 dX0_numberOf_1 ?_
  refine lv_iload_n hx hy dX0_numberOf_4 rfl (lv_at hl 1 rfl) ?_
  refine lv_iconst (v := nI 3) hx hy dX0_numberOf_5 (by decide) ?_
  refine lv_imul hx hy dX0_numberOf_6 ?_
  refine lv_iload_n hx hy dX0_numberOf_7 rfl (lv_at hl 2 rfl) ?_
  refine lv_iadd hx hy dX0_numberOf_8 ?_
  refine lv_iconst (v := nI 1) hx hy dX0_numberOf_9 (by decide) ?_
  refine lv_isub hx hy dX0_numberOf_10 ?_
  refine zI hI (xS F hI hl (kX5_elementAt l E (u) (iN hb) (by decide) (((x * (nI 3)) + w) - (nI 1))) M_X0_25 rfl ⟨Nat.le_of_ble_eq_true rfl, Nat.le_of_ble_eq_true rfl⟩ ⟨Nat.zero_le _, Nat.zero_le _⟩ rfl (Nat.le_of_ble_eq_true rfl) dX0_numberOf_11) (fun r2 v3 H locs hI hp1 => ?_)
  subst hp1
  exact rI hQ F (v := ()) hI dX0_numberOf_14 rfl
set_option maxHeartbeats 400000 in
set_option maxRecDepth 100000 in
theorem kX0_setNumber (l : Launch) (E : EV) (u : SS) {b : Nat} (hb : b < 7) (x w v : Int32) : CT l yX0_setNumber cX0_setNumber 4 none (Rm 1 22) [.ref (eA E (10 + 3 * b)), .int (x), .int (w), .int (v)] E u (Q_v E (fun c => c = stE u.1 (30 + b) 48 (x * nI 3 + w - nI 1) v) (fun (c : CF) => (c, u.2))) := by
  refine mstart RX0 (by decide +kernel) rfl (Nat.le_of_ble_eq_true rfl) ?_
  intro p e s m args below meth co ls Q hQ F hI hl
  have hx := F.1
  have hy := F.2.1
  have hl : lv_has ls 4 [(0, .ref (eA E (10 + 3 * b))), (1, .int (x)), (2, .int (w)), (3, .int (v))] := hl
  refine lv_aload_n hx hy dX0_setNumber_0 rfl (lv_at hl 0 rfl) ?_
  refine gX0_numbers F hI (b := b) hb L_X0_22 dX0_setNumber_1 ?_
  refine lv_iload_n hx hy dX0_setNumber_4 rfl (lv_at hl 1 rfl) ?_
  refine lv_iconst (v := nI 3) hx hy dX0_setNumber_5 (by decide) ?_
  refine lv_imul hx hy dX0_setNumber_6 ?_
  refine lv_iload_n hx hy dX0_setNumber_7 rfl (lv_at hl 2 rfl) ?_
  refine lv_iadd hx hy dX0_setNumber_8 ?_
  refine lv_iconst (v := nI 1) hx hy dX0_setNumber_9 (by decide) ?_
  refine lv_isub hx hy dX0_setNumber_10 ?_
  refine lv_iload_n hx hy dX0_setNumber_11 rfl (lv_at hl 3 rfl) ?_
  refine zV hI (xS F hI hl (kX5_setElement l E (u) (iN hb) (by decide) (((x * (nI 3)) + w) - (nI 1)) v) M_X0_29 rfl ⟨Nat.le_of_ble_eq_true rfl, Nat.le_of_ble_eq_true rfl⟩ ⟨Nat.zero_le _, Nat.zero_le _⟩ rfl (Nat.le_of_ble_eq_true rfl) dX0_setNumber_12) (fun v3 H locs hI hp1 => ?_)
  subst hp1
  obtain ⟨c4, ec4⟩ : ∃ z9 : CF, z9 = stE (u.1) (30 + b) 48 (((x * (nI 3)) + w) - (nI 1)) v := ⟨_, rfl⟩
  have hI : Iv E s H locs (c4, u.2) := by rw [ec4]; exact hI
  exact rV hQ F (v := c4) hI dX0_setNumber_15 ec4
set_option maxHeartbeats 400000 in
set_option maxRecDepth 100000 in
theorem kX0_add (l : Launch) (E : EV) (u : SS) {b n : Nat} (hb : b < 7) (hn : u.1 2 b = nI n) (h16 : n < 16) (k f s_ t : Int32) : CT l yX0_add cX0_add 5 none (Rm 2 45) [.ref (eA E (10 + 3 * b)), .int (k), .int (f), .int (s_), .int (t)] E u (Q_v E (fun c => c = addC b n k f s_ t u.1) (fun (c : CF) => (c, u.2))) := by
  refine mstart RX0 (by decide +kernel) rfl (Nat.le_of_ble_eq_true rfl) ?_
  intro p e s m args below meth co ls Q hQ F hI hl
  have hx := F.1
  have hy := F.2.1
  have hl : lv_has ls 5 [(0, .ref (eA E (10 + 3 * b))), (1, .int (k)), (2, .int (f)), (3, .int (s_)), (4, .int (t))] := hl
  refine lv_aload_n hx hy dX0_add_0 rfl (lv_at hl 0 rfl) ?_
  refine gX0_size F hI (b := b) hb L_X0_15 dX0_add_1 ?_
  refine tI hn ?_
  refine lv_bipush (v := nI 16) hx hy dX0_add_4 (by decide) ?_
  refine lv_icmp_lt (tgt := 10) hx hy dX0_add_6 (by decide) (fun h1 => ?_) (fun h1 => ?_)
  · have h1 : n < 16 := (nI_ltI (a := n) (b := 16) (by omega) (by omega)).mp h1
    refine lv_aload_n hx hy dX0_add_10 rfl (lv_at hl 0 rfl) ?_
    refine gX0_kinds F hI (b := b) hb L_X0_18 dX0_add_11 ?_
    refine lv_aload_n hx hy dX0_add_14 rfl (lv_at hl 0 rfl) ?_
    refine gX0_size F hI (b := b) hb L_X0_15 dX0_add_15 ?_
    refine tI hn ?_
    refine lv_iload_n hx hy dX0_add_18 rfl (lv_at hl 1 rfl) ?_
    refine zV hI (xS F hI hl (kX5_setElement l E (u) (iK hb) (by decide) (nI n) k) M_X0_29 rfl ⟨Nat.le_of_ble_eq_true rfl, Nat.le_of_ble_eq_true rfl⟩ ⟨Nat.zero_le _, Nat.zero_le _⟩ rfl (Nat.le_of_ble_eq_true rfl) dX0_add_19) (fun v4 H locs hI hp2 => ?_)
    rw [stE_lt (by omega) (by decide)] at hp2
    subst hp2
    obtain ⟨c5, ec5⟩ : ∃ z9 : CF, z9 = up u.1 (20 + b) n (k) := ⟨_, rfl⟩
    have hI : Iv E s H locs (c5, u.2) := by rw [ec5]; exact hI
    have kf6 : c5 2 b = nI n := by rw [ec5, up_at, if_neg (by omega)]; exact hn
    refine lv_aload_n hx hy dX0_add_22 rfl (lv_at hl 0 rfl) ?_
    refine lv_aload_n hx hy dX0_add_23 rfl (lv_at hl 0 rfl) ?_
    refine gX0_size F hI (b := b) hb L_X0_15 dX0_add_24 ?_
    refine tI (show _ = c5 2 b from rfl) ?_
    refine tI kf6 ?_
    refine lv_iconst (v := nI 1) hx hy dX0_add_27 (by decide) ?_
    refine lv_iload_n hx hy dX0_add_28 rfl (lv_at hl 2 rfl) ?_
    refine zV hI (xV F hI hl (kX0_setNumber l E ((c5, u.2)) (b := b) hb (nI n) (nI 1) f) M_X0_37 (rX0 F hI (b := b) hb) rfl ⟨Nat.le_of_ble_eq_true rfl, Nat.le_of_ble_eq_true rfl⟩ ⟨Nat.zero_le _, Nat.zero_le _⟩ rfl (Nat.le_of_ble_eq_true rfl) dX0_add_29) (fun v9 H locs hI hp7 => ?_)
    rw [show nI n * nI 3 + nI 1 - nI 1 = nI (3 * n) from ix3 n 0, stE_lt (by omega) (by decide)] at hp7
    subst hp7
    obtain ⟨c10, ec10⟩ : ∃ z9 : CF, z9 = up c5 (30 + b) (3 * n) (f) := ⟨_, rfl⟩
    have hI : Iv E s H locs (c10, u.2) := by rw [ec10]; exact hI
    have kf11 : c10 2 b = nI n := by rw [ec10, up_at, if_neg (by omega)]; exact kf6
    refine lv_aload_n hx hy dX0_add_32 rfl (lv_at hl 0 rfl) ?_
    refine lv_aload_n hx hy dX0_add_33 rfl (lv_at hl 0 rfl) ?_
    refine gX0_size F hI (b := b) hb L_X0_15 dX0_add_34 ?_
    refine tI (show _ = c10 2 b from rfl) ?_
    refine tI kf11 ?_
    refine lv_iconst (v := nI 2) hx hy dX0_add_37 (by decide) ?_
    refine lv_iload_n hx hy dX0_add_38 rfl (lv_at hl 3 rfl) ?_
    refine zV hI (xV F hI hl (kX0_setNumber l E ((c10, u.2)) (b := b) hb (nI n) (nI 2) s_) M_X0_37 (rX0 F hI (b := b) hb) rfl ⟨Nat.le_of_ble_eq_true rfl, Nat.le_of_ble_eq_true rfl⟩ ⟨Nat.zero_le _, Nat.zero_le _⟩ rfl (Nat.le_of_ble_eq_true rfl) dX0_add_39) (fun v14 H locs hI hp12 => ?_)
    rw [show nI n * nI 3 + nI 2 - nI 1 = nI (3 * n + 1) from ix3 n 1, stE_lt (by omega) (by decide)] at hp12
    subst hp12
    obtain ⟨c15, ec15⟩ : ∃ z9 : CF, z9 = up c10 (30 + b) (3 * n + 1) (s_) := ⟨_, rfl⟩
    have hI : Iv E s H locs (c15, u.2) := by rw [ec15]; exact hI
    have kf16 : c15 2 b = nI n := by rw [ec15, up_at, if_neg (by omega)]; exact kf11
    refine lv_aload_n hx hy dX0_add_42 rfl (lv_at hl 0 rfl) ?_
    refine lv_aload_n hx hy dX0_add_43 rfl (lv_at hl 0 rfl) ?_
    refine gX0_size F hI (b := b) hb L_X0_15 dX0_add_44 ?_
    refine tI (show _ = c15 2 b from rfl) ?_
    refine tI kf16 ?_
    refine lv_iconst (v := nI 3) hx hy dX0_add_47 (by decide) ?_
    refine lv_iload hx hy dX0_add_48 (lv_at hl 4 rfl) ?_
    refine zV hI (xV F hI hl (kX0_setNumber l E ((c15, u.2)) (b := b) hb (nI n) (nI 3) t) M_X0_37 (rX0 F hI (b := b) hb) rfl ⟨Nat.le_of_ble_eq_true rfl, Nat.le_of_ble_eq_true rfl⟩ ⟨Nat.zero_le _, Nat.zero_le _⟩ rfl (Nat.le_of_ble_eq_true rfl) dX0_add_50) (fun v19 H locs hI hp17 => ?_)
    rw [show nI n * nI 3 + nI 3 - nI 1 = nI (3 * n + 2) from ix3 n 2, stE_lt (by omega) (by decide)] at hp17
    subst hp17
    obtain ⟨c20, ec20⟩ : ∃ z9 : CF, z9 = up c15 (30 + b) (3 * n + 2) (t) := ⟨_, rfl⟩
    have hI : Iv E s H locs (c20, u.2) := by rw [ec20]; exact hI
    have kf21 : c20 2 b = nI n := by rw [ec20, up_at, if_neg (by omega)]; exact kf16
    refine lv_aload_n hx hy dX0_add_53 rfl (lv_at hl 0 rfl) ?_
    refine lv_dup hx hy dX0_add_54 rfl ?_
    refine gX0_size F hI (b := b) hb L_X0_15 dX0_add_55 ?_
    refine tI (show _ = c20 2 b from rfl) ?_
    refine tI kf21 ?_
    refine lv_iconst (v := nI 1) hx hy dX0_add_58 (by decide) ?_
    refine lv_iadd hx hy dX0_add_59 ?_
    refine tI (nI_add (n) (1)) ?_
    refine pX0_size F hI (b := b) hb L_X0_15 dX0_add_60 (fun H locs hI => ?_)
    obtain ⟨c22, ec22⟩ : ∃ z9 : CF, z9 = up c20 2 b (nI (n + 1)) := ⟨_, rfl⟩
    have hI : Iv E s H locs (c22, u.2) := by rw [ec22]; exact hI
    exact rV hQ F (v := c22) hI dX0_add_63 (by rw [addC, ec22, ec20, ec15, ec10, ec5])
  · have h1 : 16 ≤ n := Nat.le_of_not_lt (fun q9 => h1 ((nI_ltI (a := n) (b := 16) (by omega) (by omega)).mpr q9))
    exact absurd h1 (by omega)
set_option maxHeartbeats 400000 in
set_option maxRecDepth 100000 in
theorem kX0_setSource (l : Launch) (E : EV) (u : SS) {b : Nat} (hb : b < 7) (j : Nat) (hj : j < 16) (x y : Int32) : CT l yX0_setSource cX0_setSource 4 none (Rm 2 45) [.ref (eA E (10 + 3 * b)), .int (nI j), .int (x), .int (y)] E u (Q_v E (fun c => c = up (up u.1 (30 + b) (3 * j) x) (30 + b) (3 * j + 1) y) (fun (c : CF) => (c, u.2))) := by
  refine mstart RX0 (by decide +kernel) rfl (Nat.le_of_ble_eq_true rfl) ?_
  intro p e s m args below meth co ls Q hQ F hI hl
  have hx := F.1
  have hy := F.2.1
  have hl : lv_has ls 4 [(0, .ref (eA E (10 + 3 * b))), (1, .int (nI j)), (2, .int (x)), (3, .int (y))] := hl
  refine lv_aload_n hx hy dX0_setSource_0 rfl (lv_at hl 0 rfl) ?_
  refine lv_iload_n hx hy dX0_setSource_1 rfl (lv_at hl 1 rfl) ?_
  refine lv_iconst (v := nI 1) hx hy dX0_setSource_2 (by decide) ?_
  refine lv_iload_n hx hy dX0_setSource_3 rfl (lv_at hl 2 rfl) ?_
  refine zV hI (xV F hI hl (kX0_setNumber l E (u) (b := b) hb (nI j) (nI 1) x) M_X0_37 (rX0 F hI (b := b) hb) rfl ⟨Nat.le_of_ble_eq_true rfl, Nat.le_of_ble_eq_true rfl⟩ ⟨Nat.zero_le _, Nat.zero_le _⟩ rfl (Nat.le_of_ble_eq_true rfl) dX0_setSource_4) (fun v3 H locs hI hp1 => ?_)
  rw [show nI j * nI 3 + nI 1 - nI 1 = nI (3 * j) from ix3 j 0, stE_lt (by omega) (by decide)] at hp1
  subst hp1
  obtain ⟨c4, ec4⟩ : ∃ z9 : CF, z9 = up u.1 (30 + b) (3 * j) (x) := ⟨_, rfl⟩
  have hI : Iv E s H locs (c4, u.2) := by rw [ec4]; exact hI
  refine lv_aload_n hx hy dX0_setSource_7 rfl (lv_at hl 0 rfl) ?_
  refine lv_iload_n hx hy dX0_setSource_8 rfl (lv_at hl 1 rfl) ?_
  refine lv_iconst (v := nI 2) hx hy dX0_setSource_9 (by decide) ?_
  refine lv_iload_n hx hy dX0_setSource_10 rfl (lv_at hl 3 rfl) ?_
  refine zV hI (xV F hI hl (kX0_setNumber l E ((c4, u.2)) (b := b) hb (nI j) (nI 2) y) M_X0_37 (rX0 F hI (b := b) hb) rfl ⟨Nat.le_of_ble_eq_true rfl, Nat.le_of_ble_eq_true rfl⟩ ⟨Nat.zero_le _, Nat.zero_le _⟩ rfl (Nat.le_of_ble_eq_true rfl) dX0_setSource_11) (fun v7 H locs hI hp5 => ?_)
  rw [show nI j * nI 3 + nI 2 - nI 1 = nI (3 * j + 1) from ix3 j 1, stE_lt (by omega) (by decide)] at hp5
  subst hp5
  obtain ⟨c8, ec8⟩ : ∃ z9 : CF, z9 = up c4 (30 + b) (3 * j + 1) (y) := ⟨_, rfl⟩
  have hI : Iv E s H locs (c8, u.2) := by rw [ec8]; exact hI
  exact rV hQ F (v := c8) hI dX0_setSource_14 (by rw [ec8, ec4])
set_option maxHeartbeats 400000 in
set_option maxRecDepth 100000 in
theorem kX0_dropLast (l : Launch) (E : EV) (u : SS) {b n : Nat} (hb : b < 7) (hn : u.1 2 b = nI (n + 1)) (h16 : n < 16) : CT l yX0_dropLast cX0_dropLast 1 none (Rm 0 0) [.ref (eA E (10 + 3 * b))] E u (Q_v E (fun c => c = up u.1 2 b (nI n)) (fun (c : CF) => (c, u.2))) := by
  refine mstart RX0 (by decide +kernel) rfl (Nat.le_of_ble_eq_true rfl) ?_
  intro p e s m args below meth co ls Q hQ F hI hl
  have hx := F.1
  have hy := F.2.1
  have hl : lv_has ls 1 [(0, .ref (eA E (10 + 3 * b)))] := hl
  refine lv_aload_n hx hy dX0_dropLast_0 rfl (lv_at hl 0 rfl) ?_
  refine gX0_size F hI (b := b) hb L_X0_15 dX0_dropLast_1 ?_
  refine tI hn ?_
  refine lv_if_le (tgt := 17) hx hy dX0_dropLast_4 (by decide) (fun h1 => ?_) (fun h1 => ?_)
  · have h1 : n + 1 ≤ 0 := (nI_leI (a := n + 1) (b := 0) (by omega) (by omega)).mp h1
    exact absurd h1 (by omega)
  · have h1 : 0 < n + 1 := Nat.lt_of_not_le (fun q9 => h1 ((nI_leI (a := n + 1) (b := 0) (by omega) (by omega)).mpr q9))
    refine lv_aload_n hx hy dX0_dropLast_7 rfl (lv_at hl 0 rfl) ?_
    refine lv_dup hx hy dX0_dropLast_8 rfl ?_
    refine gX0_size F hI (b := b) hb L_X0_15 dX0_dropLast_9 ?_
    refine tI hn ?_
    refine lv_iconst (v := nI 1) hx hy dX0_dropLast_12 (by decide) ?_
    refine lv_isub hx hy dX0_dropLast_13 ?_
    refine tI (pk_sub (a := n + 1) (b := 1) (by omega)) ?_
    refine pX0_size F hI (b := b) hb L_X0_15 dX0_dropLast_14 (fun H locs hI => ?_)
    obtain ⟨c2, ec2⟩ : ∃ z9 : CF, z9 = up u.1 2 b (nI ((n + 1) - 1)) := ⟨_, rfl⟩
    have hI : Iv E s H locs (c2, u.2) := by rw [ec2]; exact hI
    exact rV hQ F (v := c2) hI dX0_dropLast_17 ec2
set_option maxHeartbeats 400000 in
set_option maxRecDepth 100000 in
theorem kX0_addAll (l : Launch) (E : EV) (u : SS) {b b2 m0 n : Nat} (hb : b < 7) (hb2 : b2 < 7) (hne : b ≠ b2) (hm : u.1 2 b = nI m0) (hn : u.1 2 b2 = nI n) (h16 : m0 + n ≤ 16) : CT l yX0_addAll cX0_addAll 3 none (Rm 3 69) [.ref (eA E (10 + 3 * b)), .ref (eA E (10 + 3 * b2))] E u (Q_v E (fun c => CopyP b b2 m0 n u.1 c) (fun (c : CF) => (c, u.2))) := by
  refine mstart RX0 (by decide +kernel) rfl (Nat.le_of_ble_eq_true rfl) ?_
  intro p e s m args below meth co ls Q hQ F hI hl
  have hx := F.1
  have hy := F.2.1
  have hl : lv_has ls 3 [(0, .ref (eA E (10 + 3 * b))), (1, .ref (eA E (10 + 3 * b2)))] := hl
  refine lv_iconst (v := nI 0) hx hy dX0_addAll_0 (by decide) ?_
  refine lv_istore_n (lv' := [(2, .int (nI 0)), (0, .ref (eA E (10 + 3 * b))), (1, .ref (eA E (10 + 3 * b2)))]) hx hy dX0_addAll_1 rfl hl (by decide) rfl (fun ls hl => ?_)
  have lp1 : ∀ (fu : Nat) (i : Nat) (c : CF), (i ≤ n) → (n - i < fu) → (CopyP b b2 m0 i u.1 c) →  ∀ (H : Heap) (locs : List Loc) (ls : Array Slot), Iv E s H locs ((c, u.2)) → lv_has ls 3 [(2, .int (nI i)), (0, .ref (eA E (10 + 3 * b))), (1, .ref (eA E (10 + 3 * b2)))] → W p l e (Rm 3 69) s m args below meth co H locs 0 0 Q (F0 m 2 ls []) := by
    intro fu
    induction fu with
    | zero => intro i c hi hf hC; exact absurd hf (Nat.not_lt_zero _)
    | succ fu ih =>
      intro i c hi hf hC H locs ls hI hl
      have hs2 : c 2 b2 = nI n := (hC.src hb hb2 hne).1.trans hn
      have ih_2 := ih
      refine lv_iload_n hx hy dX0_addAll_2 rfl (lv_at hl 0 rfl) ?_
      refine lv_aload_n hx hy dX0_addAll_3 rfl (lv_at hl 2 rfl) ?_
      refine gX0_size F hI (b := b2) hb2 L_X0_15 dX0_addAll_4 ?_
      refine tI (show _ = c 2 b2 from rfl) ?_
      refine tI hs2 ?_
      refine lv_icmp_ge (tgt := 43) hx hy dX0_addAll_7 (by decide) (fun h2 => ?_) (fun h2 => ?_)
      · have h2 : n ≤ i := (nI_leI (a := n) (b := i) (by omega) (by omega)).mp h2
        exact rV hQ F (v := c) hI dX0_addAll_43 (by have e9 : i = n := (by omega); rw [← e9]; exact hC)
      · have h2 : i < n := Nat.lt_of_not_le (fun q9 => h2 ((nI_leI (a := n) (b := i) (by omega) (by omega)).mpr q9))
        refine lv_aload_n hx hy dX0_addAll_10 rfl (lv_at hl 1 rfl) ?_
        refine lv_aload_n hx hy dX0_addAll_11 rfl (lv_at hl 2 rfl) ?_
        refine lv_iload_n hx hy dX0_addAll_12 rfl (lv_at hl 0 rfl) ?_
        refine zI hI (xV F hI hl (kX0_kindOf l E ((c, u.2)) (b := b2) hb2 (nI i)) M_X0_33 (rX0 F hI (b := b2) hb2) rfl ⟨Nat.le_of_ble_eq_true rfl, Nat.le_of_ble_eq_true rfl⟩ ⟨Nat.zero_le _, Nat.zero_le _⟩ rfl (Nat.le_of_ble_eq_true rfl) dX0_addAll_13) (fun r4 v5 H locs hI hp3 => ?_)
        rw [el_lt (by omega) (by decide)] at hp3
        subst hp3
        refine tI (show _ = c (20 + b2) i from rfl) ?_
        refine lv_aload_n hx hy dX0_addAll_16 rfl (lv_at hl 2 rfl) ?_
        refine lv_iload_n hx hy dX0_addAll_17 rfl (lv_at hl 0 rfl) ?_
        refine lv_iconst (v := nI 1) hx hy dX0_addAll_18 (by decide) ?_
        refine zI hI (xV F hI hl (kX0_numberOf l E ((c, u.2)) (b := b2) hb2 (nI i) (nI 1)) M_X0_41 (rX0 F hI (b := b2) hb2) rfl ⟨Nat.le_of_ble_eq_true rfl, Nat.le_of_ble_eq_true rfl⟩ ⟨Nat.zero_le _, Nat.zero_le _⟩ rfl (Nat.le_of_ble_eq_true rfl) dX0_addAll_19) (fun r7 v8 H locs hI hp6 => ?_)
        rw [show nI i * nI 3 + nI 1 - nI 1 = nI (3 * i) from ix3 i 0, el_lt (by omega) (by decide)] at hp6
        subst hp6
        refine tI (show _ = c (30 + b2) (3 * i) from rfl) ?_
        refine lv_aload_n hx hy dX0_addAll_22 rfl (lv_at hl 2 rfl) ?_
        refine lv_iload_n hx hy dX0_addAll_23 rfl (lv_at hl 0 rfl) ?_
        refine lv_iconst (v := nI 2) hx hy dX0_addAll_24 (by decide) ?_
        refine zI hI (xV F hI hl (kX0_numberOf l E ((c, u.2)) (b := b2) hb2 (nI i) (nI 2)) M_X0_41 (rX0 F hI (b := b2) hb2) rfl ⟨Nat.le_of_ble_eq_true rfl, Nat.le_of_ble_eq_true rfl⟩ ⟨Nat.zero_le _, Nat.zero_le _⟩ rfl (Nat.le_of_ble_eq_true rfl) dX0_addAll_25) (fun r10 v11 H locs hI hp9 => ?_)
        rw [show nI i * nI 3 + nI 2 - nI 1 = nI (3 * i + 1) from ix3 i 1, el_lt (by omega) (by decide)] at hp9
        subst hp9
        refine tI (show _ = c (30 + b2) (3 * i + 1) from rfl) ?_
        refine lv_aload_n hx hy dX0_addAll_28 rfl (lv_at hl 2 rfl) ?_
        refine lv_iload_n hx hy dX0_addAll_29 rfl (lv_at hl 0 rfl) ?_
        refine lv_iconst (v := nI 3) hx hy dX0_addAll_30 (by decide) ?_
        refine zI hI (xV F hI hl (kX0_numberOf l E ((c, u.2)) (b := b2) hb2 (nI i) (nI 3)) M_X0_41 (rX0 F hI (b := b2) hb2) rfl ⟨Nat.le_of_ble_eq_true rfl, Nat.le_of_ble_eq_true rfl⟩ ⟨Nat.zero_le _, Nat.zero_le _⟩ rfl (Nat.le_of_ble_eq_true rfl) dX0_addAll_31) (fun r13 v14 H locs hI hp12 => ?_)
        rw [show nI i * nI 3 + nI 3 - nI 1 = nI (3 * i + 2) from ix3 i 2, el_lt (by omega) (by decide)] at hp12
        subst hp12
        refine tI (show _ = c (30 + b2) (3 * i + 2) from rfl) ?_
        refine zV hI (xV F hI hl (kX0_add l E ((c, u.2)) (b := b) hb hC.1 (by omega) (c (20 + b2) i) (c (30 + b2) (3 * i)) (c (30 + b2) (3 * i + 1)) (c (30 + b2) (3 * i + 2))) M_X0_45 (rX0 F hI (b := b) hb) rfl ⟨Nat.le_of_ble_eq_true rfl, Nat.le_of_ble_eq_true rfl⟩ ⟨Nat.zero_le _, Nat.zero_le _⟩ rfl (Nat.le_of_ble_eq_true rfl) dX0_addAll_34) (fun v17 H locs hI hp15 => ?_)
        subst hp15
        obtain ⟨c18, ec18⟩ : ∃ z9 : CF, z9 = addC b (m0 + i) (c (20 + b2) i) (c (30 + b2) (3 * i)) (c (30 + b2) (3 * i + 1)) (c (30 + b2) (3 * i + 2)) c := ⟨_, rfl⟩
        have hI : Iv E s H locs (c18, u.2) := by rw [ec18]; exact hI
        refine lv_iinc (v := nI (i + 1)) (lv' := [(2, .int (nI (i + 1))), (0, .ref (eA E (10 + 3 * b))), (1, .ref (eA E (10 + 3 * b2)))]) hx hy dX0_addAll_37 hl (k := 0) rfl (nI_add (i) 1) (by decide) rfl (fun ls hl => ?_)
        refine lv_goto (tgt := 2) hx hy dX0_addAll_40 (by decide) ?_
        exact ih_2 (i + 1) c18 (by omega) (by omega) (hC.step hb hb2 hne ec18) _ _ _ hI (lv_sub hl [0, 1, 2] rfl)
  exact lp1 (n + 1) 0 u.1 (Nat.zero_le _) (by omega) (CopyP.start hm) _ _ _ hI (lv_sub hl [0, 1, 2] rfl)
set_option maxHeartbeats 400000 in
set_option maxRecDepth 100000 in
theorem kX0_copyFrom (l : Launch) (E : EV) (u : SS) {b b2 n : Nat} (hb : b < 7) (hb2 : b2 < 7) (hne : b ≠ b2) (hn : u.1 2 b2 = nI n) (h16 : n ≤ 16) : CT l yX0_copyFrom cX0_copyFrom 2 none (Rm 4 91) [.ref (eA E (10 + 3 * b)), .ref (eA E (10 + 3 * b2))] E u (Q_v E (fun c => CopyOf b b2 u.1 c) (fun (c : CF) => (c, u.2))) := by
  refine mstart RX0 (by decide +kernel) rfl (Nat.le_of_ble_eq_true rfl) ?_
  intro p e s m args below meth co ls Q hQ F hI hl
  have hx := F.1
  have hy := F.2.1
  have hl : lv_has ls 2 [(0, .ref (eA E (10 + 3 * b))), (1, .ref (eA E (10 + 3 * b2)))] := hl
  refine lv_aload_n hx hy dX0_copyFrom_0 rfl (lv_at hl 0 rfl) ?_
  refine lv_aload_n hx hy dX0_copyFrom_1 rfl (lv_at hl 1 rfl) ?_
  refine gX0_length F hI (b := b2) hb2 L_X0_9 dX0_copyFrom_2 ?_
  refine pX0_length F hI (b := b) hb L_X0_9 dX0_copyFrom_5 (fun H locs hI => ?_)
  obtain ⟨c1, ec1⟩ : ∃ z9 : CF, z9 = up u.1 1 b (u.1 1 b2) := ⟨_, rfl⟩
  have hI : Iv E s H locs (c1, u.2) := by rw [ec1]; exact hI
  have kf2 : c1 2 b2 = nI n := by rw [ec1, up_at, if_neg (by omega)]; exact hn
  refine lv_aload_n hx hy dX0_copyFrom_8 rfl (lv_at hl 0 rfl) ?_
  refine lv_iconst (v := nI 0) hx hy dX0_copyFrom_9 (by decide) ?_
  refine pX0_size F hI (b := b) hb L_X0_15 dX0_copyFrom_10 (fun H locs hI => ?_)
  obtain ⟨c3, ec3⟩ : ∃ z9 : CF, z9 = up c1 2 b (nI 0) := ⟨_, rfl⟩
  have hI : Iv E s H locs (c3, u.2) := by rw [ec3]; exact hI
  have kf4 : c3 2 b2 = nI n := by rw [ec3, up_at, if_neg (by omega)]; exact kf2
  refine lv_aload_n hx hy dX0_copyFrom_13 rfl (lv_at hl 0 rfl) ?_
  refine lv_aload_n hx hy dX0_copyFrom_14 rfl (lv_at hl 1 rfl) ?_
  refine zV hI (xV F hI hl (kX0_addAll l E ((c3, u.2)) (b := b) (b2 := b2) (m0 := 0) (n := n) hb hb2 (by omega) (show c3 2 b = nI 0 by rw [ec3]; exact up_s _ _ _ _) kf4 (by omega)) M_X0_49 (rX0 F hI (b := b) hb) rfl ⟨Nat.le_of_ble_eq_true rfl, Nat.le_of_ble_eq_true rfl⟩ ⟨Nat.zero_le _, Nat.zero_le _⟩ rfl (Nat.le_of_ble_eq_true rfl) dX0_copyFrom_15) (fun v7 H locs hI hp5 => ?_)
  exact rV hQ F (v := v7) hI dX0_copyFrom_18 (CopyOf.mk' hb hb2 hne h16 hn ec1 ec3 hp5)
set_option maxHeartbeats 400000 in
set_option maxRecDepth 100000 in
theorem kX0_sources (l : Launch) (E : EV) (u : SS) {b n : Nat} {f : Nat → Ln} (hb : b < 7) (hR : RepL b u.1 n f) (h16 : n ≤ 16) (hk : ∀ j, j < n → (f j).1 ≤ 6) : CT l yX0_sources cX0_sources 3 (some .int) (Rm 2 42) [.ref (eA E (10 + 3 * b))] E u (Q_i E (fun r _ => r = nI (fb_ct (fun j => decide ((f j).1 = 0)) n)) (fun (_ : Unit) => u)) := by
  refine mstart RX0 (by decide +kernel) rfl (Nat.le_of_ble_eq_true rfl) ?_
  intro p e s m args below meth co ls Q hQ F hI hl
  have hx := F.1
  have hy := F.2.1
  have hl : lv_has ls 3 [(0, .ref (eA E (10 + 3 * b)))] := hl
  refine lv_iconst (v := nI 0) hx hy dX0_sources_0 (by decide) ?_
  refine lv_istore_n (lv' := [(1, .int (nI 0)), (0, .ref (eA E (10 + 3 * b)))]) hx hy dX0_sources_1 rfl hl (by decide) rfl (fun ls hl => ?_)
  refine lv_iconst (v := nI 0) hx hy dX0_sources_2 (by decide) ?_
  refine lv_istore_n (lv' := [(2, .int (nI 0)), (1, .int (nI 0)), (0, .ref (eA E (10 + 3 * b)))]) hx hy dX0_sources_3 rfl hl (by decide) rfl (fun ls hl => ?_)
  have lp1 : ∀ (fu : Nat) (i : Nat), (i ≤ n) → (n - i < fu) →  ∀ (H : Heap) (locs : List Loc) (ls : Array Slot), Iv E s H locs (u) → lv_has ls 3 [(2, .int (nI i)), (1, .int (nI ((fb_ct (fun j => decide ((f j).1 = 0)) i)))), (0, .ref (eA E (10 + 3 * b)))] → W p l e (Rm 2 42) s m args below meth co H locs 0 0 Q (F0 m 4 ls []) := by
    intro fu
    induction fu with
    | zero => intro i hi hf; exact absurd hf (Nat.not_lt_zero _)
    | succ fu ih =>
      intro i hi hf H locs ls hI hl
      have ih_4 := ih
      refine lv_iload_n hx hy dX0_sources_4 rfl (lv_at hl 0 rfl) ?_
      refine lv_aload_n hx hy dX0_sources_5 rfl (lv_at hl 2 rfl) ?_
      refine gX0_size F hI (b := b) hb L_X0_15 dX0_sources_6 ?_
      refine tI hR.1 ?_
      refine lv_icmp_ge (tgt := 29) hx hy dX0_sources_9 (by decide) (fun h2 => ?_) (fun h2 => ?_)
      · have h2 : n ≤ i := (nI_leI (a := n) (b := i) (by omega) (by omega)).mp h2
        refine lv_iload_n hx hy dX0_sources_29 rfl (lv_at hl 1 rfl) ?_
        exact rI hQ F (v := ()) hI dX0_sources_30 (by rw [show i = n from by omega])
      · have h2 : i < n := Nat.lt_of_not_le (fun q9 => h2 ((nI_leI (a := n) (b := i) (by omega) (by omega)).mpr q9))
        refine lv_aload_n hx hy dX0_sources_12 rfl (lv_at hl 2 rfl) ?_
        refine lv_iload_n hx hy dX0_sources_13 rfl (lv_at hl 0 rfl) ?_
        refine zI hI (xV F hI hl (kX0_kindOf l E (u) (b := b) hb (nI i)) M_X0_33 (rX0 F hI (b := b) hb) rfl ⟨Nat.le_of_ble_eq_true rfl, Nat.le_of_ble_eq_true rfl⟩ ⟨Nat.zero_le _, Nat.zero_le _⟩ rfl (Nat.le_of_ble_eq_true rfl) dX0_sources_14) (fun r4 v5 H locs hI hp3 => ?_)
        rw [el_lt (by omega) (by decide)] at hp3
        subst hp3
        refine tI (hR.2 i (by omega)).1 ?_
        refine lv_if_ne (tgt := 23) hx hy dX0_sources_17 (by decide) (fun h6 => ?_) (fun h6 => ?_)
        · have h6 : (f i).1 ≠ 0 := fun q9 => h6 ((nI_eq (a := (f i).1) (b := 0) (by have := hk i (by omega); omega) (by omega)).mpr q9)
          have e7 : fb_ct (fun j => decide ((f j).1 = 0)) (i + 1) = (fb_ct (fun j => decide ((f j).1 = 0)) i) := by rw [fb_ct_succ, if_neg (by simpa using h6), Nat.add_zero]
          rw [← e7] at hl
          refine lv_iinc (v := nI (i + 1)) (lv' := [(2, .int (nI (i + 1))), (1, .int (nI ((fb_ct (fun j => decide ((f j).1 = 0)) (i + 1))))), (0, .ref (eA E (10 + 3 * b)))]) hx hy dX0_sources_23 hl (k := 0) rfl (nI_add (i) 1) (by decide) rfl (fun ls hl => ?_)
          refine lv_goto (tgt := 4) hx hy dX0_sources_26 (by decide) ?_
          exact ih_4 (i + 1) (by omega) (by omega) _ _ _ hI (lv_sub hl [0, 1, 2] rfl)
        · have h6 : (f i).1 = 0 := (nI_eq (a := (f i).1) (b := 0) (by have := hk i (by omega); omega) (by omega)).mp h6
          refine lv_iinc (v := nI ((fb_ct (fun j => decide ((f j).1 = 0)) i) + 1)) (lv' := [(1, .int (nI ((fb_ct (fun j => decide ((f j).1 = 0)) i) + 1))), (2, .int (nI i)), (0, .ref (eA E (10 + 3 * b)))]) hx hy dX0_sources_20 hl (k := 1) rfl (nI_add ((fb_ct (fun j => decide ((f j).1 = 0)) i)) 1) (by decide) rfl (fun ls hl => ?_)
          have e8 : fb_ct (fun j => decide ((f j).1 = 0)) (i + 1) = (fb_ct (fun j => decide ((f j).1 = 0)) i) + 1 := by rw [fb_ct_succ, if_pos (decide_eq_true h6)]
          rw [← e8] at hl
          refine lv_iinc (v := nI (i + 1)) (lv' := [(2, .int (nI (i + 1))), (1, .int (nI ((fb_ct (fun j => decide ((f j).1 = 0)) (i + 1))))), (0, .ref (eA E (10 + 3 * b)))]) hx hy dX0_sources_23 hl (k := 1) rfl (nI_add (i) 1) (by decide) rfl (fun ls hl => ?_)
          refine lv_goto (tgt := 4) hx hy dX0_sources_26 (by decide) ?_
          exact ih_4 (i + 1) (by omega) (by omega) _ _ _ hI (lv_sub hl [0, 1, 2] rfl)
  exact lp1 (n + 1) 0 (Nat.zero_le _) (by omega) _ _ _ hI (lv_sub hl [0, 1, 2] rfl)
