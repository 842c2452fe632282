set_option maxHeartbeats 400000 in
set_option maxRecDepth 100000 in
theorem kX2_exactShareOf (l : Launch) (E : EV) (u : SS) (x : Int32) : CT l yX2_exactShareOf cX2_exactShareOf 2 (some .int) (Rm 1 21) [.ref (eA E 5), .int (x)] E u (Q_i E (fun r _ => r = el 16 (u.1 3) x) (fun (_ : Unit) => u)) := by
  refine mstart RX2 (by decide +kernel) rfl (Nat.le_of_ble_eq_true rfl) ?_
  intro p e s m args below meth co ls Q hQ F hI hl
  have hx := F.1
  have hy := F.2.1
  have hl : lv_has ls 2 [(0, .ref (eA E 5)), (1, .int (x))] := hl
  refine lv_aload_n hx hy dX2_exactShareOf_0 rfl (lv_at hl 0 rfl) ?_
  refine gX2_exactShares F hI L_X2_9 dX2_exactShareOf_1 ?_
  refine lv_iload_n hx hy dX2_exactShareOf_4 rfl (lv_at hl 1 rfl) ?_
  refine zI hI (xS F hI hl (kX5_elementAt l E (u) iX2_exactShares (by decide) x) M_X2_41 rfl ⟨Nat.le_of_ble_eq_true rfl, Nat.le_of_ble_eq_true rfl⟩ ⟨Nat.zero_le _, Nat.zero_le _⟩ rfl (Nat.le_of_ble_eq_true rfl) dX2_exactShareOf_5) (fun r2 v3 H locs hI hp1 => ?_)
  subst hp1
  exact rI hQ F (v := ()) hI dX2_exactShareOf_8 rfl
set_option maxHeartbeats 400000 in
set_option maxRecDepth 100000 in
theorem kX2_depthOf (l : Launch) (E : EV) (u : SS) (x : Int32) : CT l yX2_depthOf cX2_depthOf 2 (some .int) (Rm 1 21) [.ref (eA E 5), .int (x)] E u (Q_i E (fun r _ => r = el 16 (u.1 4) x) (fun (_ : Unit) => u)) := by
  refine mstart RX2 (by decide +kernel) rfl (Nat.le_of_ble_eq_true rfl) ?_
  intro p e s m args below meth co ls Q hQ F hI hl
  have hx := F.1
  have hy := F.2.1
  have hl : lv_has ls 2 [(0, .ref (eA E 5)), (1, .int (x))] := hl
  refine lv_aload_n hx hy dX2_depthOf_0 rfl (lv_at hl 0 rfl) ?_
  refine gX2_depths F hI L_X2_15 dX2_depthOf_1 ?_
  refine lv_iload_n hx hy dX2_depthOf_4 rfl (lv_at hl 1 rfl) ?_
  refine zI hI (xS F hI hl (kX5_elementAt l E (u) iX2_depths (by decide) x) M_X2_41 rfl ⟨Nat.le_of_ble_eq_true rfl, Nat.le_of_ble_eq_true rfl⟩ ⟨Nat.zero_le _, Nat.zero_le _⟩ rfl (Nat.le_of_ble_eq_true rfl) dX2_depthOf_5) (fun r2 v3 H locs hI hp1 => ?_)
  subst hp1
  exact rI hQ F (v := ()) hI dX2_depthOf_8 rfl
set_option maxHeartbeats 400000 in
set_option maxRecDepth 100000 in
theorem kX2_sourcesOf (l : Launch) (E : EV) (u : SS) {f : Nat → Ln} (j : Nat) (hj : j < 16) (hO : u.1 5 j = nI (og f j)) (hlt : og f j < 2 ^ 16) : CT l yX2_sourcesOf cX2_sourcesOf 2 (some .int) (Rm 1 21) [.ref (eA E 5), .int (nI j)] E u (Q_i E (fun r _ => r = nI (fb_ct (fun t => (og f j).testBit t) 32)) (fun (_ : Unit) => u)) := by
  refine mstart RX2 (by decide +kernel) rfl (Nat.le_of_ble_eq_true rfl) ?_
  intro p e s m args below meth co ls Q hQ F hI hl
  have hx := F.1
  have hy := F.2.1
  have hl : lv_has ls 2 [(0, .ref (eA E 5)), (1, .int (nI j))] := hl
  refine lv_aload_n hx hy dX2_sourcesOf_0 rfl (lv_at hl 0 rfl) ?_
  refine gX2_origins F hI L_X2_18 dX2_sourcesOf_1 ?_
  refine lv_iload_n hx hy dX2_sourcesOf_4 rfl (lv_at hl 1 rfl) ?_
  refine zI hI (xS F hI hl (kX5_elementAt l E (u) iX2_origins (by decide) (nI j)) M_X2_41 rfl ⟨Nat.le_of_ble_eq_true rfl, Nat.le_of_ble_eq_true rfl⟩ ⟨Nat.zero_le _, Nat.zero_le _⟩ rfl (Nat.le_of_ble_eq_true rfl) dX2_sourcesOf_5) (fun r2 v3 H locs hI hp1 => ?_)
  rw [el_lt (by omega) (by decide)] at hp1
  subst hp1
  refine tI hO ?_
  refine zI hI (xS F hI hl (kJ6_bitCount_0f7a4 l E (u) (og f j) (by omega)) M_X2_45 rfl ⟨Nat.le_of_ble_eq_true rfl, Nat.le_of_ble_eq_true rfl⟩ ⟨Nat.zero_le _, Nat.zero_le _⟩ rfl (Nat.le_of_ble_eq_true rfl) dX2_sourcesOf_8) (fun r5 v6 H locs hI hp4 => ?_)
  subst hp4
  exact rI hQ F (v := ()) hI dX2_sourcesOf_11 rfl
set_option maxHeartbeats 400000 in
set_option maxRecDepth 100000 in
theorem kX2_greatestDepth (l : Launch) (E : EV) (u : SS) {f : Nat → Ln} (n : Nat) (h16 : n ≤ 16) (hD : ∀ a, a < n → u.1 4 a = nI (dp f a)) (hle : ∀ a, a < n → dp f a ≤ 16) : CT l yX2_greatestDepth cX2_greatestDepth 4 (some .int) (Rm 2 42) [.ref (eA E 5), .int (nI n)] E u (Q_i E (fun r _ => r = nI (mxN (dp f) n)) (fun (_ : Unit) => u)) := by
  refine mstart RX2 (by decide +kernel) rfl (Nat.le_of_ble_eq_true rfl) ?_
  intro p e s m args below meth co ls Q hQ F hI hl
  have hx := F.1
  have hy := F.2.1
  have hl : lv_has ls 4 [(0, .ref (eA E 5)), (1, .int (nI n))] := hl
  refine lv_iconst (v := nI 0) hx hy dX2_greatestDepth_0 (by decide) ?_
  refine lv_istore_n (lv' := [(2, .int (nI 0)), (0, .ref (eA E 5)), (1, .int (nI n))]) hx hy dX2_greatestDepth_1 rfl hl (by decide) rfl (fun ls hl => ?_)
  refine lv_iconst (v := nI 0) hx hy dX2_greatestDepth_2 (by decide) ?_
  refine lv_istore_n (lv' := [(3, .int (nI 0)), (2, .int (nI 0)), (0, .ref (eA E 5)), (1, .int (nI n))]) hx hy dX2_greatestDepth_3 rfl hl (by decide) rfl (fun ls hl => ?_)
  have lp1 : ∀ (fu : Nat) (i : Nat), (i ≤ n) → (n - i < fu) →  ∀ (H : Heap) (locs : List Loc) (ls : Array Slot), Iv E s H locs (u) → lv_has ls 4 [(3, .int (nI i)), (2, .int (nI (mxN (dp f) i))), (0, .ref (eA E 5)), (1, .int (nI n))] → W p l e (Rm 2 42) s m args below meth co H locs 0 0 Q (F0 m 4 ls []) := by
    intro fu
    induction fu with
    | zero => intro i hi hf; exact absurd hf (Nat.not_lt_zero _)
    | succ fu ih =>
      intro i hi hf H locs ls hI hl
      have ih_4 := ih
      refine lv_iload_n hx hy dX2_greatestDepth_4 rfl (lv_at hl 0 rfl) ?_
      refine lv_iload_n hx hy dX2_greatestDepth_5 rfl (lv_at hl 3 rfl) ?_
      refine lv_icmp_ge (tgt := 25) hx hy dX2_greatestDepth_6 (by decide) (fun h2 => ?_) (fun h2 => ?_)
      · have h2 : n ≤ i := (nI_leI (a := n) (b := i) (by omega) (by omega)).mp h2
        refine lv_iload_n hx hy dX2_greatestDepth_25 rfl (lv_at hl 1 rfl) ?_
        exact rI hQ F (v := ()) hI dX2_greatestDepth_26 (by rw [show i = n from by omega])
      · have h2 : i < n := Nat.lt_of_not_le (fun q9 => h2 ((nI_leI (a := n) (b := i) (by omega) (by omega)).mpr q9))
        refine lv_iload_n hx hy dX2_greatestDepth_9 rfl (lv_at hl 1 rfl) ?_
        refine lv_aload_n hx hy dX2_greatestDepth_10 rfl (lv_at hl 2 rfl) ?_
        refine lv_iload_n hx hy dX2_greatestDepth_11 rfl (lv_at hl 0 rfl) ?_
        refine zI hI (xV F hI hl (kX2_depthOf l E (u) (nI i)) M_X2_51 (rX2 F hI) rfl ⟨Nat.le_of_ble_eq_true rfl, Nat.le_of_ble_eq_true rfl⟩ ⟨Nat.zero_le _, Nat.zero_le _⟩ rfl (Nat.le_of_ble_eq_true rfl) dX2_greatestDepth_12) (fun r4 v5 H locs hI hp3 => ?_)
        rw [el_lt (by omega) (by decide)] at hp3
        subst hp3
        refine tI (hD i (by omega)) ?_
        refine zm_max F hl M_X2_54 ⟨Nat.le_of_ble_eq_true rfl, Nat.le_of_ble_eq_true rfl⟩ ⟨Nat.zero_le _, Nat.zero_le _⟩ dX2_greatestDepth_15 ?_
        refine tI (mx_nI (a := mxN (dp f) i) (b := dp f i) (by have := mxN_le (g := dp f) (k := 16) i (fun a ha => hle a (by omega)); omega) (by have := hle i (by omega); omega)) ?_
        refine lv_istore_n (lv' := [(2, .int (nI (max (mxN (dp f) i) (dp f i)))), (3, .int (nI i)), (0, .ref (eA E 5)), (1, .int (nI n))]) hx hy dX2_greatestDepth_18 rfl hl (by decide) rfl (fun ls hl => ?_)
        refine lv_iinc (v := nI (i + 1)) (lv' := [(3, .int (nI (i + 1))), (2, .int (nI (max (mxN (dp f) i) (dp f i)))), (0, .ref (eA E 5)), (1, .int (nI n))]) hx hy dX2_greatestDepth_19 hl (k := 1) rfl (nI_add (i) 1) (by decide) rfl (fun ls hl => ?_)
        refine lv_goto (tgt := 4) hx hy dX2_greatestDepth_22 (by decide) ?_
        exact ih_4 (i + 1) (by omega) (by omega) _ _ _ hI (lv_sub hl [0, 1, 2, 3] rfl)
  exact lp1 (n + 1) 0 (Nat.zero_le _) (by omega) _ _ _ hI (lv_sub hl [0, 1, 2, 3] rfl)
set_option maxHeartbeats 400000 in
set_option maxRecDepth 100000 in
theorem kX2_productOf (l : Launch) (E : EV) (u : SS) (a b : Nat) (ha : a ≤ 65536) (hb : b ≤ 65536) : CT l yX2_productOf cX2_productOf 4 (some .int) (Rm 0 0) [.long (lN a), .long (lN b)] E u (Q_i E (fun r _ => r = nI (a * b / 65536)) (fun (_ : Unit) => u)) := by
  refine mstart RX2 (by decide +kernel) rfl (Nat.le_of_ble_eq_true rfl) ?_
  intro p e s m args below meth co ls Q hQ F hI hl
  have hx := F.1
  have hy := F.2.1
  have hl : lv_has ls 4 [(0, .long (lN a)), (2, .long (lN b))] := hl
  have hab : a * b ≤ 65536 * 65536 := Nat.mul_le_mul ha hb
  refine lv_lload_n hx hy dX2_productOf_0 rfl (lv_at hl 0 rfl) ?_
  refine lv_lload_n hx hy dX2_productOf_1 rfl (lv_at hl 1 rfl) ?_
  refine lv_lmul hx hy dX2_productOf_2 ?_
  refine tL (lN_mul (a) (b)) ?_
  refine zcl F K_X2_78 dX2_productOf_3 ?_
  refine tL (show _ = lN 65536 from rfl) ?_
  refine lv_ldiv hx hy dX2_productOf_6 (by decide) ?_
  refine tL (pk_lDiv (a := a * b) (b := 65536) (by omega) (by omega) (by omega)) ?_
  refine lv_l2i (v := nI ((a * b) / 65536)) hx hy dX2_productOf_7 (lN_i ((a * b) / 65536)) ?_
  exact rI hQ F (v := ()) hI dX2_productOf_8 rfl
set_option maxHeartbeats 400000 in
set_option maxRecDepth 100000 in
theorem kX2_mixOf (l : Launch) (E : EV) (u : SS) (a b c : Nat) (ha : a ≤ 65536) (hb : b ≤ 65536) (hc : c ≤ 65536) : CT l yX2_mixOf cX2_mixOf 6 (some .int) (Rm 0 0) [.long (lN a), .long (lN b), .long (lN c)] E u (Q_i E (fun r _ => r = nI ((a * c + b * (65536 - c)) / 65536)) (fun (_ : Unit) => u)) := by
  refine mstart RX2 (by decide +kernel) rfl (Nat.le_of_ble_eq_true rfl) ?_
  intro p e s m args below meth co ls Q hQ F hI hl
  have hx := F.1
  have hy := F.2.1
  have hl : lv_has ls 6 [(0, .long (lN a)), (2, .long (lN b)), (4, .long (lN c))] := hl
  have h1 : a * c ≤ 65536 * 65536 := Nat.mul_le_mul ha hc
  have h2 : b * (65536 - c) ≤ 65536 * 65536 := Nat.mul_le_mul hb (Nat.sub_le _ _)
  refine lv_lload_n hx hy dX2_mixOf_0 rfl (lv_at hl 0 rfl) ?_
  refine lv_lload hx hy dX2_mixOf_1 (lv_at hl 2 rfl) ?_
  refine lv_lmul hx hy dX2_mixOf_3 ?_
  refine tL (lN_mul (a) (c)) ?_
  refine lv_lload_n hx hy dX2_mixOf_4 rfl (lv_at hl 1 rfl) ?_
  refine zcl F K_X2_78 dX2_mixOf_5 ?_
  refine tL (show _ = lN 65536 from rfl) ?_
  refine lv_lload hx hy dX2_mixOf_8 (lv_at hl 2 rfl) ?_
  refine lv_lsub hx hy dX2_mixOf_10 ?_
  refine tL (lN_sub (a := 65536) (b := c) (by omega)) ?_
  refine lv_lmul hx hy dX2_mixOf_11 ?_
  refine tL (lN_mul (b) (65536 - c)) ?_
  refine lv_ladd hx hy dX2_mixOf_12 ?_
  refine tL (lN_add (a * c) (b * (65536 - c))) ?_
  refine zcl F K_X2_78 dX2_mixOf_13 ?_
  refine tL (show _ = lN 65536 from rfl) ?_
  refine lv_ldiv hx hy dX2_mixOf_16 (by decide) ?_
  refine tL (pk_lDiv (a := a * c + b * (65536 - c)) (b := 65536) (by omega) (by omega) (by omega)) ?_
  refine lv_l2i (v := nI ((a * c + b * (65536 - c)) / 65536)) hx hy dX2_mixOf_17 (lN_i ((a * c + b * (65536 - c)) / 65536)) ?_
  exact rI hQ F (v := ()) hI dX2_mixOf_18 rfl
set_option maxHeartbeats 400000 in
set_option maxRecDepth 100000 in
theorem kX2_exactShareIn (l : Launch) (E : EV) (u : SS) {b n : Nat} {f : Nat → Ln} (hb : b < 7) (hR : RepL b u.1 n f) (h16 : n ≤ 16) (j : Nat) (hj : j < n) (hok : LnOk j (f j)) (hX : ∀ i, i < j → u.1 3 i = nI (ex f i)) (hL : ∀ i, i < j → ex f i ≤ 65536) : CT l yX2_exactShareIn cX2_exactShareIn 6 (some .int) (Rm 2 43) [.ref (eA E 5), .ref (eA E (10 + 3 * b)), .int (nI j)] E u (Q_i E (fun r _ => r = nI (ex f j)) (fun (_ : Unit) => u)) := by
  refine mstart RX2 (by decide +kernel) rfl (Nat.le_of_ble_eq_true rfl) ?_
  intro p e s m args below meth co ls Q hQ F hI hl
  have hx := F.1
  have hy := F.2.1
  have hl : lv_has ls 6 [(0, .ref (eA E 5)), (1, .ref (eA E (10 + 3 * b))), (2, .int (nI j))] := hl
  have hk6 := hok.1
  have hB9 := hok.2.2.2.2.2.2.1
  have hC9 := hok.2.2.2.2.2.2.2
  rcases (show (f j).1 = 0 ∨ (f j).1 = 1 ∨ (f j).1 = 2 ∨ (f j).1 = 3 ∨ (f j).1 = 4 ∨ (f j).1 = 5 ∨ (f j).1 = 6 by omega) with hk1 | hk1 | hk1 | hk1 | hk1 | hk1 | hk1
  · refine lv_aload_n hx hy dX2_exactShareIn_0 rfl (lv_at hl 1 rfl) ?_
    refine lv_iload_n hx hy dX2_exactShareIn_1 rfl (lv_at hl 2 rfl) ?_
    refine lv_iconst (v := nI 1) hx hy dX2_exactShareIn_2 (by decide) ?_
    refine zI hI (xV F hI hl (kX0_numberOf l E (u) (b := b) hb (nI j) (nI 1)) M_X2_60 (rX0 F hI (b := b) hb) rfl ⟨Nat.le_of_ble_eq_true rfl, Nat.le_of_ble_eq_true rfl⟩ ⟨Nat.zero_le _, Nat.zero_le _⟩ rfl (Nat.le_of_ble_eq_true rfl) dX2_exactShareIn_3) (fun r3 v4 H locs hI hp2 => ?_)
    rw [show nI j * nI 3 + nI 1 - nI 1 = nI (3 * j) from ix3 j 0, el_lt (by omega) (by decide)] at hp2
    subst hp2
    refine tI (hR.2 j hj).2.1 ?_
    refine lv_istore_n (lv' := [(3, .int (nI ((f j).2.1))), (0, .ref (eA E 5)), (1, .ref (eA E (10 + 3 * b))), (2, .int (nI j))]) hx hy dX2_exactShareIn_6 rfl hl (by decide) rfl (fun ls hl => ?_)
    refine lv_aload_n hx hy dX2_exactShareIn_7 rfl (lv_at hl 2 rfl) ?_
    refine lv_iload_n hx hy dX2_exactShareIn_8 rfl (lv_at hl 3 rfl) ?_
    refine lv_iconst (v := nI 2) hx hy dX2_exactShareIn_9 (by decide) ?_
    refine zI hI (xV F hI hl (kX0_numberOf l E (u) (b := b) hb (nI j) (nI 2)) M_X2_60 (rX0 F hI (b := b) hb) rfl ⟨Nat.le_of_ble_eq_true rfl, Nat.le_of_ble_eq_true rfl⟩ ⟨Nat.zero_le _, Nat.zero_le _⟩ rfl (Nat.le_of_ble_eq_true rfl) dX2_exactShareIn_10) (fun r6 v7 H locs hI hp5 => ?_)
    rw [show nI j * nI 3 + nI 2 - nI 1 = nI (3 * j + 1) from ix3 j 1, el_lt (by omega) (by decide)] at hp5
    subst hp5
    refine tI (hR.2 j hj).2.2.1 ?_
    refine lv_istore (lv' := [(4, .int (nI ((f j).2.2.1))), (3, .int (nI ((f j).2.1))), (0, .ref (eA E 5)), (1, .ref (eA E (10 + 3 * b))), (2, .int (nI j))]) hx hy dX2_exactShareIn_13 hl (by decide) rfl (fun ls hl => ?_)
    refine lv_aload_n hx hy dX2_exactShareIn_15 rfl (lv_at hl 2 rfl) ?_
    refine lv_iload_n hx hy dX2_exactShareIn_16 rfl (lv_at hl 1 rfl) ?_
    refine zI hI (xV F hI hl (kX2_exactShareOf l E (u) (nI ((f j).2.1))) M_X2_63 (rX2 F hI) rfl ⟨Nat.le_of_ble_eq_true rfl, Nat.le_of_ble_eq_true rfl⟩ ⟨Nat.zero_le _, Nat.zero_le _⟩ rfl (Nat.le_of_ble_eq_true rfl) dX2_exactShareIn_17) (fun r9 v10 H locs hI hp8 => ?_)
    subst hp8
    refine lv_istore (lv' := [(5, .int (el 16 (u.1 3) (nI ((f j).2.1)))), (4, .int (nI ((f j).2.2.1))), (3, .int (nI ((f j).2.1))), (0, .ref (eA E 5)), (1, .ref (eA E (10 + 3 * b))), (2, .int (nI j))]) hx hy dX2_exactShareIn_20 hl (by decide) rfl (fun ls hl => ?_)
    refine lv_aload_n hx hy dX2_exactShareIn_22 rfl (lv_at hl 4 rfl) ?_
    refine lv_iload_n hx hy dX2_exactShareIn_23 rfl (lv_at hl 5 rfl) ?_
    refine zI hI (xV F hI hl (kX0_kindOf l E (u) (b := b) hb (nI j)) M_X2_66 (rX0 F hI (b := b) hb) rfl ⟨Nat.le_of_ble_eq_true rfl, Nat.le_of_ble_eq_true rfl⟩ ⟨Nat.zero_le _, Nat.zero_le _⟩ rfl (Nat.le_of_ble_eq_true rfl) dX2_exactShareIn_24) (fun r12 v13 H locs hI hp11 => ?_)
    rw [el_lt (by omega) (by decide)] at hp11
    subst hp11
    refine tI (show _ = nI 0 by rw [← hk1]; exact (hR.2 j hj).1) ?_
    refine lv_tableIn (tgt := 64) hx hy dX2_exactShareIn_27 (by decide) (by decide) (by rfl) (by decide) ?_
    refine lv_iload_n hx hy dX2_exactShareIn_64 rfl (lv_at hl 2 rfl) ?_
    refine lv_sipush (v := nI 256) hx hy dX2_exactShareIn_65 (by decide) ?_
    refine lv_imul hx hy dX2_exactShareIn_68 ?_
    refine tI (pk_mul ((f j).2.1) (256)) ?_
    exact rI hQ F (v := ()) hI dX2_exactShareIn_69 (by rw [ex_eq hok]; simp [exS, hk1])
  · have hA := hok.2.2.1 (by omega)
    have hB := hok.2.2.2.1 (by omega) (by omega)
    have xA := hX (f j).2.1 hA
    have lA := hL (f j).2.1 hA
    have xB := hX (f j).2.2.1 hB
    have lB := hL (f j).2.2.1 hB
    refine lv_aload_n hx hy dX2_exactShareIn_0 rfl (lv_at hl 1 rfl) ?_
    refine lv_iload_n hx hy dX2_exactShareIn_1 rfl (lv_at hl 2 rfl) ?_
    refine lv_iconst (v := nI 1) hx hy dX2_exactShareIn_2 (by decide) ?_
    refine zI hI (xV F hI hl (kX0_numberOf l E (u) (b := b) hb (nI j) (nI 1)) M_X2_60 (rX0 F hI (b := b) hb) rfl ⟨Nat.le_of_ble_eq_true rfl, Nat.le_of_ble_eq_true rfl⟩ ⟨Nat.zero_le _, Nat.zero_le _⟩ rfl (Nat.le_of_ble_eq_true rfl) dX2_exactShareIn_3) (fun r15 v16 H locs hI hp14 => ?_)
    rw [show nI j * nI 3 + nI 1 - nI 1 = nI (3 * j) from ix3 j 0, el_lt (by omega) (by decide)] at hp14
    subst hp14
    refine tI (hR.2 j hj).2.1 ?_
    refine lv_istore_n (lv' := [(3, .int (nI ((f j).2.1))), (0, .ref (eA E 5)), (1, .ref (eA E (10 + 3 * b))), (2, .int (nI j))]) hx hy dX2_exactShareIn_6 rfl hl (by decide) rfl (fun ls hl => ?_)
    refine lv_aload_n hx hy dX2_exactShareIn_7 rfl (lv_at hl 2 rfl) ?_
    refine lv_iload_n hx hy dX2_exactShareIn_8 rfl (lv_at hl 3 rfl) ?_
    refine lv_iconst (v := nI 2) hx hy dX2_exactShareIn_9 (by decide) ?_
    refine zI hI (xV F hI hl (kX0_numberOf l E (u) (b := b) hb (nI j) (nI 2)) M_X2_60 (rX0 F hI (b := b) hb) rfl ⟨Nat.le_of_ble_eq_true rfl, Nat.le_of_ble_eq_true rfl⟩ ⟨Nat.zero_le _, Nat.zero_le _⟩ rfl (Nat.le_of_ble_eq_true rfl) dX2_exactShareIn_10) (fun r18 v19 H locs hI hp17 => ?_)
    rw [show nI j * nI 3 + nI 2 - nI 1 = nI (3 * j + 1) from ix3 j 1, el_lt (by omega) (by decide)] at hp17
    subst hp17
    refine tI (hR.2 j hj).2.2.1 ?_
    refine lv_istore (lv' := [(4, .int (nI ((f j).2.2.1))), (3, .int (nI ((f j).2.1))), (0, .ref (eA E 5)), (1, .ref (eA E (10 + 3 * b))), (2, .int (nI j))]) hx hy dX2_exactShareIn_13 hl (by decide) rfl (fun ls hl => ?_)
    refine lv_aload_n hx hy dX2_exactShareIn_15 rfl (lv_at hl 2 rfl) ?_
    refine lv_iload_n hx hy dX2_exactShareIn_16 rfl (lv_at hl 1 rfl) ?_
    refine zI hI (xV F hI hl (kX2_exactShareOf l E (u) (nI ((f j).2.1))) M_X2_63 (rX2 F hI) rfl ⟨Nat.le_of_ble_eq_true rfl, Nat.le_of_ble_eq_true rfl⟩ ⟨Nat.zero_le _, Nat.zero_le _⟩ rfl (Nat.le_of_ble_eq_true rfl) dX2_exactShareIn_17) (fun r21 v22 H locs hI hp20 => ?_)
    rw [el_lt (by omega) (by decide)] at hp20
    subst hp20
    refine tI xA ?_
    refine lv_istore (lv' := [(5, .int (nI (ex f (f j).2.1))), (4, .int (nI ((f j).2.2.1))), (3, .int (nI ((f j).2.1))), (0, .ref (eA E 5)), (1, .ref (eA E (10 + 3 * b))), (2, .int (nI j))]) hx hy dX2_exactShareIn_20 hl (by decide) rfl (fun ls hl => ?_)
    refine lv_aload_n hx hy dX2_exactShareIn_22 rfl (lv_at hl 4 rfl) ?_
    refine lv_iload_n hx hy dX2_exactShareIn_23 rfl (lv_at hl 5 rfl) ?_
    refine zI hI (xV F hI hl (kX0_kindOf l E (u) (b := b) hb (nI j)) M_X2_66 (rX0 F hI (b := b) hb) rfl ⟨Nat.le_of_ble_eq_true rfl, Nat.le_of_ble_eq_true rfl⟩ ⟨Nat.zero_le _, Nat.zero_le _⟩ rfl (Nat.le_of_ble_eq_true rfl) dX2_exactShareIn_24) (fun r24 v25 H locs hI hp23 => ?_)
    rw [el_lt (by omega) (by decide)] at hp23
    subst hp23
    refine tI (show _ = nI 1 by rw [← hk1]; exact (hR.2 j hj).1) ?_
    refine lv_tableIn (tgt := 70) hx hy dX2_exactShareIn_27 (by decide) (by decide) (by rfl) (by decide) ?_
    refine lv_iload hx hy dX2_exactShareIn_70 (lv_at hl 0 rfl) ?_
    refine lv_i2l (v := lN (ex f (f j).2.1)) hx hy dX2_exactShareIn_72 (nI_l (by omega)) ?_
    refine lv_aload_n hx hy dX2_exactShareIn_73 rfl (lv_at hl 3 rfl) ?_
    refine lv_iload hx hy dX2_exactShareIn_74 (lv_at hl 1 rfl) ?_
    refine zI hI (xV F hI hl (kX2_exactShareOf l E (u) (nI ((f j).2.2.1))) M_X2_63 (rX2 F hI) rfl ⟨Nat.le_of_ble_eq_true rfl, Nat.le_of_ble_eq_true rfl⟩ ⟨Nat.zero_le _, Nat.zero_le _⟩ rfl (Nat.le_of_ble_eq_true rfl) dX2_exactShareIn_76) (fun r27 v28 H locs hI hp26 => ?_)
    rw [el_lt (by omega) (by decide)] at hp26
    subst hp26
    refine tI xB ?_
    refine lv_i2l (v := lN (ex f (f j).2.2.1)) hx hy dX2_exactShareIn_79 (nI_l (by omega)) ?_
    refine zI hI (xS F hI hl (kX2_productOf l E (u) (ex f (f j).2.1) (ex f (f j).2.2.1) (by omega) (by omega)) M_X2_69 rfl ⟨Nat.le_of_ble_eq_true rfl, Nat.le_of_ble_eq_true rfl⟩ ⟨Nat.zero_le _, Nat.zero_le _⟩ rfl (Nat.le_of_ble_eq_true rfl) dX2_exactShareIn_80) (fun r30 v31 H locs hI hp29 => ?_)
    subst hp29
    exact rI hQ F (v := ()) hI dX2_exactShareIn_83 (by rw [ex_eq hok]; simp [exS, hk1])
  · have hA := hok.2.2.1 (by omega)
    have hB := hok.2.2.2.1 (by omega) (by omega)
    have xA := hX (f j).2.1 hA
    have lA := hL (f j).2.1 hA
    have xB := hX (f j).2.2.1 hB
    have lB := hL (f j).2.2.1 hB
    have p1 := pq_le (b := ex f (f j).2.2.1) lA
    have p2 := pq_le2 (a := ex f (f j).2.1) lB
    refine lv_aload_n hx hy dX2_exactShareIn_0 rfl (lv_at hl 1 rfl) ?_
    refine lv_iload_n hx hy dX2_exactShareIn_1 rfl (lv_at hl 2 rfl) ?_
    refine lv_iconst (v := nI 1) hx hy dX2_exactShareIn_2 (by decide) ?_
    refine zI hI (xV F hI hl (kX0_numberOf l E (u) (b := b) hb (nI j) (nI 1)) M_X2_60 (rX0 F hI (b := b) hb) rfl ⟨Nat.le_of_ble_eq_true rfl, Nat.le_of_ble_eq_true rfl⟩ ⟨Nat.zero_le _, Nat.zero_le _⟩ rfl (Nat.le_of_ble_eq_true rfl) dX2_exactShareIn_3) (fun r33 v34 H locs hI hp32 => ?_)
    rw [show nI j * nI 3 + nI 1 - nI 1 = nI (3 * j) from ix3 j 0, el_lt (by omega) (by decide)] at hp32
    subst hp32
    refine tI (hR.2 j hj).2.1 ?_
    refine lv_istore_n (lv' := [(3, .int (nI ((f j).2.1))), (0, .ref (eA E 5)), (1, .ref (eA E (10 + 3 * b))), (2, .int (nI j))]) hx hy dX2_exactShareIn_6 rfl hl (by decide) rfl (fun ls hl => ?_)
    refine lv_aload_n hx hy dX2_exactShareIn_7 rfl (lv_at hl 2 rfl) ?_
    refine lv_iload_n hx hy dX2_exactShareIn_8 rfl (lv_at hl 3 rfl) ?_
    refine lv_iconst (v := nI 2) hx hy dX2_exactShareIn_9 (by decide) ?_
    refine zI hI (xV F hI hl (kX0_numberOf l E (u) (b := b) hb (nI j) (nI 2)) M_X2_60 (rX0 F hI (b := b) hb) rfl ⟨Nat.le_of_ble_eq_true rfl, Nat.le_of_ble_eq_true rfl⟩ ⟨Nat.zero_le _, Nat.zero_le _⟩ rfl (Nat.le_of_ble_eq_true rfl) dX2_exactShareIn_10) (fun r36 v37 H locs hI hp35 => ?_)
    rw [show nI j * nI 3 + nI 2 - nI 1 = nI (3 * j + 1) from ix3 j 1, el_lt (by omega) (by decide)] at hp35
    subst hp35
    refine tI (hR.2 j hj).2.2.1 ?_
    refine lv_istore (lv' := [(4, .int (nI ((f j).2.2.1))), (3, .int (nI ((f j).2.1))), (0, .ref (eA E 5)), (1, .ref (eA E (10 + 3 * b))), (2, .int (nI j))]) hx hy dX2_exactShareIn_13 hl (by decide) rfl (fun ls hl => ?_)
    refine lv_aload_n hx hy dX2_exactShareIn_15 rfl (lv_at hl 2 rfl) ?_
    refine lv_iload_n hx hy dX2_exactShareIn_16 rfl (lv_at hl 1 rfl) ?_
    refine zI hI (xV F hI hl (kX2_exactShareOf l E (u) (nI ((f j).2.1))) M_X2_63 (rX2 F hI) rfl ⟨Nat.le_of_ble_eq_true rfl, Nat.le_of_ble_eq_true rfl⟩ ⟨Nat.zero_le _, Nat.zero_le _⟩ rfl (Nat.le_of_ble_eq_true rfl) dX2_exactShareIn_17) (fun r39 v40 H locs hI hp38 => ?_)
    rw [el_lt (by omega) (by decide)] at hp38
    subst hp38
    refine tI xA ?_
    refine lv_istore (lv' := [(5, .int (nI (ex f (f j).2.1))), (4, .int (nI ((f j).2.2.1))), (3, .int (nI ((f j).2.1))), (0, .ref (eA E 5)), (1, .ref (eA E (10 + 3 * b))), (2, .int (nI j))]) hx hy dX2_exactShareIn_20 hl (by decide) rfl (fun ls hl => ?_)
    refine lv_aload_n hx hy dX2_exactShareIn_22 rfl (lv_at hl 4 rfl) ?_
    refine lv_iload_n hx hy dX2_exactShareIn_23 rfl (lv_at hl 5 rfl) ?_
    refine zI hI (xV F hI hl (kX0_kindOf l E (u) (b := b) hb (nI j)) M_X2_66 (rX0 F hI (b := b) hb) rfl ⟨Nat.le_of_ble_eq_true rfl, Nat.le_of_ble_eq_true rfl⟩ ⟨Nat.zero_le _, Nat.zero_le _⟩ rfl (Nat.le_of_ble_eq_true rfl) dX2_exactShareIn_24) (fun r42 v43 H locs hI hp41 => ?_)
    rw [el_lt (by omega) (by decide)] at hp41
    subst hp41
    refine tI (show _ = nI 2 by rw [← hk1]; exact (hR.2 j hj).1) ?_
    refine lv_tableIn (tgt := 84) hx hy dX2_exactShareIn_27 (by decide) (by decide) (by rfl) (by decide) ?_
    refine lv_iload hx hy dX2_exactShareIn_84 (lv_at hl 0 rfl) ?_
    refine lv_aload_n hx hy dX2_exactShareIn_86 rfl (lv_at hl 3 rfl) ?_
    refine lv_iload hx hy dX2_exactShareIn_87 (lv_at hl 1 rfl) ?_
    refine zI hI (xV F hI hl (kX2_exactShareOf l E (u) (nI ((f j).2.2.1))) M_X2_63 (rX2 F hI) rfl ⟨Nat.le_of_ble_eq_true rfl, Nat.le_of_ble_eq_true rfl⟩ ⟨Nat.zero_le _, Nat.zero_le _⟩ rfl (Nat.le_of_ble_eq_true rfl) dX2_exactShareIn_89) (fun r45 v46 H locs hI hp44 => ?_)
    rw [el_lt (by omega) (by decide)] at hp44
    subst hp44
    refine tI xB ?_
    refine lv_iadd hx hy dX2_exactShareIn_92 ?_
    refine tI (nI_add (ex f (f j).2.1) (ex f (f j).2.2.1)) ?_
    refine lv_iload hx hy dX2_exactShareIn_93 (lv_at hl 0 rfl) ?_
    refine lv_i2l (v := lN (ex f (f j).2.1)) hx hy dX2_exactShareIn_95 (nI_l (by omega)) ?_
    refine lv_aload_n hx hy dX2_exactShareIn_96 rfl (lv_at hl 3 rfl) ?_
    refine lv_iload hx hy dX2_exactShareIn_97 (lv_at hl 1 rfl) ?_
    refine zI hI (xV F hI hl (kX2_exactShareOf l E (u) (nI ((f j).2.2.1))) M_X2_63 (rX2 F hI) rfl ⟨Nat.le_of_ble_eq_true rfl, Nat.le_of_ble_eq_true rfl⟩ ⟨Nat.zero_le _, Nat.zero_le _⟩ rfl (Nat.le_of_ble_eq_true rfl) dX2_exactShareIn_99) (fun r48 v49 H locs hI hp47 => ?_)
    rw [el_lt (by omega) (by decide)] at hp47
    subst hp47
    refine tI xB ?_
    refine lv_i2l (v := lN (ex f (f j).2.2.1)) hx hy dX2_exactShareIn_102 (nI_l (by omega)) ?_
    refine zI hI (xS F hI hl (kX2_productOf l E (u) (ex f (f j).2.1) (ex f (f j).2.2.1) (by omega) (by omega)) M_X2_69 rfl ⟨Nat.le_of_ble_eq_true rfl, Nat.le_of_ble_eq_true rfl⟩ ⟨Nat.zero_le _, Nat.zero_le _⟩ rfl (Nat.le_of_ble_eq_true rfl) dX2_exactShareIn_103) (fun r51 v52 H locs hI hp50 => ?_)
    subst hp50
    refine lv_isub hx hy dX2_exactShareIn_106 ?_
    refine tI (pk_sub (a := ex f (f j).2.1 + ex f (f j).2.2.1) (b := (ex f (f j).2.1) * (ex f (f j).2.2.1) / 65536) (by omega)) ?_
    exact rI hQ F (v := ()) hI dX2_exactShareIn_107 (by rw [ex_eq hok]; simp [exS, hk1])
  · have hA := hok.2.2.1 (by omega)
    have hB := hok.2.2.2.1 (by omega) (by omega)
    have xA := hX (f j).2.1 hA
    have lA := hL (f j).2.1 hA
    have xB := hX (f j).2.2.1 hB
    have lB := hL (f j).2.2.1 hB
    have p1 := pq_le (b := ex f (f j).2.2.1) lA
    have p2 := pq_le2 (a := ex f (f j).2.1) lB
    refine lv_aload_n hx hy dX2_exactShareIn_0 rfl (lv_at hl 1 rfl) ?_
    refine lv_iload_n hx hy dX2_exactShareIn_1 rfl (lv_at hl 2 rfl) ?_
    refine lv_iconst (v := nI 1) hx hy dX2_exactShareIn_2 (by decide) ?_
    refine zI hI (xV F hI hl (kX0_numberOf l E (u) (b := b) hb (nI j) (nI 1)) M_X2_60 (rX0 F hI (b := b) hb) rfl ⟨Nat.le_of_ble_eq_true rfl, Nat.le_of_ble_eq_true rfl⟩ ⟨Nat.zero_le _, Nat.zero_le _⟩ rfl (Nat.le_of_ble_eq_true rfl) dX2_exactShareIn_3) (fun r54 v55 H locs hI hp53 => ?_)
    rw [show nI j * nI 3 + nI 1 - nI 1 = nI (3 * j) from ix3 j 0, el_lt (by omega) (by decide)] at hp53
    subst hp53
    refine tI (hR.2 j hj).2.1 ?_
    refine lv_istore_n (lv' := [(3, .int (nI ((f j).2.1))), (0, .ref (eA E 5)), (1, .ref (eA E (10 + 3 * b))), (2, .int (nI j))]) hx hy dX2_exactShareIn_6 rfl hl (by decide) rfl (fun ls hl => ?_)
    refine lv_aload_n hx hy dX2_exactShareIn_7 rfl (lv_at hl 2 rfl) ?_
    refine lv_iload_n hx hy dX2_exactShareIn_8 rfl (lv_at hl 3 rfl) ?_
    refine lv_iconst (v := nI 2) hx hy dX2_exactShareIn_9 (by decide) ?_
    refine zI hI (xV F hI hl (kX0_numberOf l E (u) (b := b) hb (nI j) (nI 2)) M_X2_60 (rX0 F hI (b := b) hb) rfl ⟨Nat.le_of_ble_eq_true rfl, Nat.le_of_ble_eq_true rfl⟩ ⟨Nat.zero_le _, Nat.zero_le _⟩ rfl (Nat.le_of_ble_eq_true rfl) dX2_exactShareIn_10) (fun r57 v58 H locs hI hp56 => ?_)
    rw [show nI j * nI 3 + nI 2 - nI 1 = nI (3 * j + 1) from ix3 j 1, el_lt (by omega) (by decide)] at hp56
    subst hp56
    refine tI (hR.2 j hj).2.2.1 ?_
    refine lv_istore (lv' := [(4, .int (nI ((f j).2.2.1))), (3, .int (nI ((f j).2.1))), (0, .ref (eA E 5)), (1, .ref (eA E (10 + 3 * b))), (2, .int (nI j))]) hx hy dX2_exactShareIn_13 hl (by decide) rfl (fun ls hl => ?_)
    refine lv_aload_n hx hy dX2_exactShareIn_15 rfl (lv_at hl 2 rfl) ?_
    refine lv_iload_n hx hy dX2_exactShareIn_16 rfl (lv_at hl 1 rfl) ?_
    refine zI hI (xV F hI hl (kX2_exactShareOf l E (u) (nI ((f j).2.1))) M_X2_63 (rX2 F hI) rfl ⟨Nat.le_of_ble_eq_true rfl, Nat.le_of_ble_eq_true rfl⟩ ⟨Nat.zero_le _, Nat.zero_le _⟩ rfl (Nat.le_of_ble_eq_true rfl) dX2_exactShareIn_17) (fun r60 v61 H locs hI hp59 => ?_)
    rw [el_lt (by omega) (by decide)] at hp59
    subst hp59
    refine tI xA ?_
    refine lv_istore (lv' := [(5, .int (nI (ex f (f j).2.1))), (4, .int (nI ((f j).2.2.1))), (3, .int (nI ((f j).2.1))), (0, .ref (eA E 5)), (1, .ref (eA E (10 + 3 * b))), (2, .int (nI j))]) hx hy dX2_exactShareIn_20 hl (by decide) rfl (fun ls hl => ?_)
    refine lv_aload_n hx hy dX2_exactShareIn_22 rfl (lv_at hl 4 rfl) ?_
    refine lv_iload_n hx hy dX2_exactShareIn_23 rfl (lv_at hl 5 rfl) ?_
    refine zI hI (xV F hI hl (kX0_kindOf l E (u) (b := b) hb (nI j)) M_X2_66 (rX0 F hI (b := b) hb) rfl ⟨Nat.le_of_ble_eq_true rfl, Nat.le_of_ble_eq_true rfl⟩ ⟨Nat.zero_le _, Nat.zero_le _⟩ rfl (Nat.le_of_ble_eq_true rfl) dX2_exactShareIn_24) (fun r63 v64 H locs hI hp62 => ?_)
    rw [el_lt (by omega) (by decide)] at hp62
    subst hp62
    refine tI (show _ = nI 3 by rw [← hk1]; exact (hR.2 j hj).1) ?_
    refine lv_tableIn (tgt := 108) hx hy dX2_exactShareIn_27 (by decide) (by decide) (by rfl) (by decide) ?_
    refine lv_iload hx hy dX2_exactShareIn_108 (lv_at hl 0 rfl) ?_
    refine lv_aload_n hx hy dX2_exactShareIn_110 rfl (lv_at hl 3 rfl) ?_
    refine lv_iload hx hy dX2_exactShareIn_111 (lv_at hl 1 rfl) ?_
    refine zI hI (xV F hI hl (kX2_exactShareOf l E (u) (nI ((f j).2.2.1))) M_X2_63 (rX2 F hI) rfl ⟨Nat.le_of_ble_eq_true rfl, Nat.le_of_ble_eq_true rfl⟩ ⟨Nat.zero_le _, Nat.zero_le _⟩ rfl (Nat.le_of_ble_eq_true rfl) dX2_exactShareIn_113) (fun r66 v67 H locs hI hp65 => ?_)
    rw [el_lt (by omega) (by decide)] at hp65
    subst hp65
    refine tI xB ?_
    refine lv_iadd hx hy dX2_exactShareIn_116 ?_
    refine tI (nI_add (ex f (f j).2.1) (ex f (f j).2.2.1)) ?_
    refine lv_iconst (v := nI 2) hx hy dX2_exactShareIn_117 (by decide) ?_
    refine lv_iload hx hy dX2_exactShareIn_118 (lv_at hl 0 rfl) ?_
    refine lv_i2l (v := lN (ex f (f j).2.1)) hx hy dX2_exactShareIn_120 (nI_l (by omega)) ?_
    refine lv_aload_n hx hy dX2_exactShareIn_121 rfl (lv_at hl 3 rfl) ?_
    refine lv_iload hx hy dX2_exactShareIn_122 (lv_at hl 1 rfl) ?_
    refine zI hI (xV F hI hl (kX2_exactShareOf l E (u) (nI ((f j).2.2.1))) M_X2_63 (rX2 F hI) rfl ⟨Nat.le_of_ble_eq_true rfl, Nat.le_of_ble_eq_true rfl⟩ ⟨Nat.zero_le _, Nat.zero_le _⟩ rfl (Nat.le_of_ble_eq_true rfl) dX2_exactShareIn_124) (fun r69 v70 H locs hI hp68 => ?_)
    rw [el_lt (by omega) (by decide)] at hp68
    subst hp68
    refine tI xB ?_
    refine lv_i2l (v := lN (ex f (f j).2.2.1)) hx hy dX2_exactShareIn_127 (nI_l (by omega)) ?_
    refine zI hI (xS F hI hl (kX2_productOf l E (u) (ex f (f j).2.1) (ex f (f j).2.2.1) (by omega) (by omega)) M_X2_69 rfl ⟨Nat.le_of_ble_eq_true rfl, Nat.le_of_ble_eq_true rfl⟩ ⟨Nat.zero_le _, Nat.zero_le _⟩ rfl (Nat.le_of_ble_eq_true rfl) dX2_exactShareIn_128) (fun r72 v73 H locs hI hp71 => ?_)
    subst hp71
    refine lv_imul hx hy dX2_exactShareIn_131 ?_
    refine tI (pk_mul (2) ((ex f (f j).2.1) * (ex f (f j).2.2.1) / 65536)) ?_
    refine lv_isub hx hy dX2_exactShareIn_132 ?_
    refine tI (pk_sub (a := ex f (f j).2.1 + ex f (f j).2.2.1) (b := 2 * ((ex f (f j).2.1) * (ex f (f j).2.2.1) / 65536)) (by omega)) ?_
    exact rI hQ F (v := ()) hI dX2_exactShareIn_133 (by rw [ex_eq hok]; simp [exS, hk1])
  · have hA := hok.2.2.1 (by omega)
    have hB := hok.2.2.2.1 (by omega) (by omega)
    have hC := hok.2.2.2.2.1 hk1
    have xA := hX (f j).2.1 hA
    have lA := hL (f j).2.1 hA
    have xB := hX (f j).2.2.1 hB
    have lB := hL (f j).2.2.1 hB
    have xC := hX (f j).2.2.2 hC
    have lC := hL (f j).2.2.2 hC
    refine lv_aload_n hx hy dX2_exactShareIn_0 rfl (lv_at hl 1 rfl) ?_
    refine lv_iload_n hx hy dX2_exactShareIn_1 rfl (lv_at hl 2 rfl) ?_
    refine lv_iconst (v := nI 1) hx hy dX2_exactShareIn_2 (by decide) ?_
    refine zI hI (xV F hI hl (kX0_numberOf l E (u) (b := b) hb (nI j) (nI 1)) M_X2_60 (rX0 F hI (b := b) hb) rfl ⟨Nat.le_of_ble_eq_true rfl, Nat.le_of_ble_eq_true rfl⟩ ⟨Nat.zero_le _, Nat.zero_le _⟩ rfl (Nat.le_of_ble_eq_true rfl) dX2_exactShareIn_3) (fun r75 v76 H locs hI hp74 => ?_)
    rw [show nI j * nI 3 + nI 1 - nI 1 = nI (3 * j) from ix3 j 0, el_lt (by omega) (by decide)] at hp74
    subst hp74
    refine tI (hR.2 j hj).2.1 ?_
    refine lv_istore_n (lv' := [(3, .int (nI ((f j).2.1))), (0, .ref (eA E 5)), (1, .ref (eA E (10 + 3 * b))), (2, .int (nI j))]) hx hy dX2_exactShareIn_6 rfl hl (by decide) rfl (fun ls hl => ?_)
    refine lv_aload_n hx hy dX2_exactShareIn_7 rfl (lv_at hl 2 rfl) ?_
    refine lv_iload_n hx hy dX2_exactShareIn_8 rfl (lv_at hl 3 rfl) ?_
    refine lv_iconst (v := nI 2) hx hy dX2_exactShareIn_9 (by decide) ?_
    refine zI hI (xV F hI hl (kX0_numberOf l E (u) (b := b) hb (nI j) (nI 2)) M_X2_60 (rX0 F hI (b := b) hb) rfl ⟨Nat.le_of_ble_eq_true rfl, Nat.le_of_ble_eq_true rfl⟩ ⟨Nat.zero_le _, Nat.zero_le _⟩ rfl (Nat.le_of_ble_eq_true rfl) dX2_exactShareIn_10) (fun r78 v79 H locs hI hp77 => ?_)
    rw [show nI j * nI 3 + nI 2 - nI 1 = nI (3 * j + 1) from ix3 j 1, el_lt (by omega) (by decide)] at hp77
    subst hp77
    refine tI (hR.2 j hj).2.2.1 ?_
    refine lv_istore (lv' := [(4, .int (nI ((f j).2.2.1))), (3, .int (nI ((f j).2.1))), (0, .ref (eA E 5)), (1, .ref (eA E (10 + 3 * b))), (2, .int (nI j))]) hx hy dX2_exactShareIn_13 hl (by decide) rfl (fun ls hl => ?_)
    refine lv_aload_n hx hy dX2_exactShareIn_15 rfl (lv_at hl 2 rfl) ?_
    refine lv_iload_n hx hy dX2_exactShareIn_16 rfl (lv_at hl 1 rfl) ?_
    refine zI hI (xV F hI hl (kX2_exactShareOf l E (u) (nI ((f j).2.1))) M_X2_63 (rX2 F hI) rfl ⟨Nat.le_of_ble_eq_true rfl, Nat.le_of_ble_eq_true rfl⟩ ⟨Nat.zero_le _, Nat.zero_le _⟩ rfl (Nat.le_of_ble_eq_true rfl) dX2_exactShareIn_17) (fun r81 v82 H locs hI hp80 => ?_)
    rw [el_lt (by omega) (by decide)] at hp80
    subst hp80
    refine tI xA ?_
    refine lv_istore (lv' := [(5, .int (nI (ex f (f j).2.1))), (4, .int (nI ((f j).2.2.1))), (3, .int (nI ((f j).2.1))), (0, .ref (eA E 5)), (1, .ref (eA E (10 + 3 * b))), (2, .int (nI j))]) hx hy dX2_exactShareIn_20 hl (by decide) rfl (fun ls hl => ?_)
    refine lv_aload_n hx hy dX2_exactShareIn_22 rfl (lv_at hl 4 rfl) ?_
    refine lv_iload_n hx hy dX2_exactShareIn_23 rfl (lv_at hl 5 rfl) ?_
    refine zI hI (xV F hI hl (kX0_kindOf l E (u) (b := b) hb (nI j)) M_X2_66 (rX0 F hI (b := b) hb) rfl ⟨Nat.le_of_ble_eq_true rfl, Nat.le_of_ble_eq_true rfl⟩ ⟨Nat.zero_le _, Nat.zero_le _⟩ rfl (Nat.le_of_ble_eq_true rfl) dX2_exactShareIn_24) (fun r84 v85 H locs hI hp83 => ?_)
    rw [el_lt (by omega) (by decide)] at hp83
    subst hp83
    refine tI (show _ = nI 4 by rw [← hk1]; exact (hR.2 j hj).1) ?_
    refine lv_tableIn (tgt := 134) hx hy dX2_exactShareIn_27 (by decide) (by decide) (by rfl) (by decide) ?_
    refine lv_iload hx hy dX2_exactShareIn_134 (lv_at hl 0 rfl) ?_
    refine lv_i2l (v := lN (ex f (f j).2.1)) hx hy dX2_exactShareIn_136 (nI_l (by omega)) ?_
    refine lv_aload_n hx hy dX2_exactShareIn_137 rfl (lv_at hl 3 rfl) ?_
    refine lv_iload hx hy dX2_exactShareIn_138 (lv_at hl 1 rfl) ?_
    refine zI hI (xV F hI hl (kX2_exactShareOf l E (u) (nI ((f j).2.2.1))) M_X2_63 (rX2 F hI) rfl ⟨Nat.le_of_ble_eq_true rfl, Nat.le_of_ble_eq_true rfl⟩ ⟨Nat.zero_le _, Nat.zero_le _⟩ rfl (Nat.le_of_ble_eq_true rfl) dX2_exactShareIn_140) (fun r87 v88 H locs hI hp86 => ?_)
    rw [el_lt (by omega) (by decide)] at hp86
    subst hp86
    refine tI xB ?_
    refine lv_i2l (v := lN (ex f (f j).2.2.1)) hx hy dX2_exactShareIn_143 (nI_l (by omega)) ?_
    refine lv_aload_n hx hy dX2_exactShareIn_144 rfl (lv_at hl 3 rfl) ?_
    refine lv_aload_n hx hy dX2_exactShareIn_145 rfl (lv_at hl 4 rfl) ?_
    refine lv_iload_n hx hy dX2_exactShareIn_146 rfl (lv_at hl 5 rfl) ?_
    refine lv_iconst (v := nI 3) hx hy dX2_exactShareIn_147 (by decide) ?_
    refine zI hI (xV F hI hl (kX0_numberOf l E (u) (b := b) hb (nI j) (nI 3)) M_X2_60 (rX0 F hI (b := b) hb) rfl ⟨Nat.le_of_ble_eq_true rfl, Nat.le_of_ble_eq_true rfl⟩ ⟨Nat.zero_le _, Nat.zero_le _⟩ rfl (Nat.le_of_ble_eq_true rfl) dX2_exactShareIn_148) (fun r90 v91 H locs hI hp89 => ?_)
    rw [show nI j * nI 3 + nI 3 - nI 1 = nI (3 * j + 2) from ix3 j 2, el_lt (by omega) (by decide)] at hp89
    subst hp89
    refine tI (hR.2 j hj).2.2.2 ?_
    refine zI hI (xV F hI hl (kX2_exactShareOf l E (u) (nI ((f j).2.2.2))) M_X2_63 (rX2 F hI) rfl ⟨Nat.le_of_ble_eq_true rfl, Nat.le_of_ble_eq_true rfl⟩ ⟨Nat.zero_le _, Nat.zero_le _⟩ rfl (Nat.le_of_ble_eq_true rfl) dX2_exactShareIn_151) (fun r93 v94 H locs hI hp92 => ?_)
    rw [el_lt (by omega) (by decide)] at hp92
    subst hp92
    refine tI xC ?_
    refine lv_i2l (v := lN (ex f (f j).2.2.2)) hx hy dX2_exactShareIn_154 (nI_l (by omega)) ?_
    refine zI hI (xS F hI hl (kX2_mixOf l E (u) (ex f (f j).2.1) (ex f (f j).2.2.1) (ex f (f j).2.2.2) (by omega) (by omega) (by omega)) M_X2_73 rfl ⟨Nat.le_of_ble_eq_true rfl, Nat.le_of_ble_eq_true rfl⟩ ⟨Nat.zero_le _, Nat.zero_le _⟩ rfl (Nat.le_of_ble_eq_true rfl) dX2_exactShareIn_155) (fun r96 v97 H locs hI hp95 => ?_)
    subst hp95
    exact rI hQ F (v := ()) hI dX2_exactShareIn_158 (by rw [ex_eq hok]; simp [exS, hk1])
  · have hA := hok.2.2.1 (by omega)
    have xA := hX (f j).2.1 hA
    have lA := hL (f j).2.1 hA
    refine lv_aload_n hx hy dX2_exactShareIn_0 rfl (lv_at hl 1 rfl) ?_
    refine lv_iload_n hx hy dX2_exactShareIn_1 rfl (lv_at hl 2 rfl) ?_
    refine lv_iconst (v := nI 1) hx hy dX2_exactShareIn_2 (by decide) ?_
    refine zI hI (xV F hI hl (kX0_numberOf l E (u) (b := b) hb (nI j) (nI 1)) M_X2_60 (rX0 F hI (b := b) hb) rfl ⟨Nat.le_of_ble_eq_true rfl, Nat.le_of_ble_eq_true rfl⟩ ⟨Nat.zero_le _, Nat.zero_le _⟩ rfl (Nat.le_of_ble_eq_true rfl) dX2_exactShareIn_3) (fun r99 v100 H locs hI hp98 => ?_)
    rw [show nI j * nI 3 + nI 1 - nI 1 = nI (3 * j) from ix3 j 0, el_lt (by omega) (by decide)] at hp98
    subst hp98
    refine tI (hR.2 j hj).2.1 ?_
    refine lv_istore_n (lv' := [(3, .int (nI ((f j).2.1))), (0, .ref (eA E 5)), (1, .ref (eA E (10 + 3 * b))), (2, .int (nI j))]) hx hy dX2_exactShareIn_6 rfl hl (by decide) rfl (fun ls hl => ?_)
    refine lv_aload_n hx hy dX2_exactShareIn_7 rfl (lv_at hl 2 rfl) ?_
    refine lv_iload_n hx hy dX2_exactShareIn_8 rfl (lv_at hl 3 rfl) ?_
    refine lv_iconst (v := nI 2) hx hy dX2_exactShareIn_9 (by decide) ?_
    refine zI hI (xV F hI hl (kX0_numberOf l E (u) (b := b) hb (nI j) (nI 2)) M_X2_60 (rX0 F hI (b := b) hb) rfl ⟨Nat.le_of_ble_eq_true rfl, Nat.le_of_ble_eq_true rfl⟩ ⟨Nat.zero_le _, Nat.zero_le _⟩ rfl (Nat.le_of_ble_eq_true rfl) dX2_exactShareIn_10) (fun r102 v103 H locs hI hp101 => ?_)
    rw [show nI j * nI 3 + nI 2 - nI 1 = nI (3 * j + 1) from ix3 j 1, el_lt (by omega) (by decide)] at hp101
    subst hp101
    refine tI (hR.2 j hj).2.2.1 ?_
    refine lv_istore (lv' := [(4, .int (nI ((f j).2.2.1))), (3, .int (nI ((f j).2.1))), (0, .ref (eA E 5)), (1, .ref (eA E (10 + 3 * b))), (2, .int (nI j))]) hx hy dX2_exactShareIn_13 hl (by decide) rfl (fun ls hl => ?_)
    refine lv_aload_n hx hy dX2_exactShareIn_15 rfl (lv_at hl 2 rfl) ?_
    refine lv_iload_n hx hy dX2_exactShareIn_16 rfl (lv_at hl 1 rfl) ?_
    refine zI hI (xV F hI hl (kX2_exactShareOf l E (u) (nI ((f j).2.1))) M_X2_63 (rX2 F hI) rfl ⟨Nat.le_of_ble_eq_true rfl, Nat.le_of_ble_eq_true rfl⟩ ⟨Nat.zero_le _, Nat.zero_le _⟩ rfl (Nat.le_of_ble_eq_true rfl) dX2_exactShareIn_17) (fun r105 v106 H locs hI hp104 => ?_)
    rw [el_lt (by omega) (by decide)] at hp104
    subst hp104
    refine tI xA ?_
    refine lv_istore (lv' := [(5, .int (nI (ex f (f j).2.1))), (4, .int (nI ((f j).2.2.1))), (3, .int (nI ((f j).2.1))), (0, .ref (eA E 5)), (1, .ref (eA E (10 + 3 * b))), (2, .int (nI j))]) hx hy dX2_exactShareIn_20 hl (by decide) rfl (fun ls hl => ?_)
    refine lv_aload_n hx hy dX2_exactShareIn_22 rfl (lv_at hl 4 rfl) ?_
    refine lv_iload_n hx hy dX2_exactShareIn_23 rfl (lv_at hl 5 rfl) ?_
    refine zI hI (xV F hI hl (kX0_kindOf l E (u) (b := b) hb (nI j)) M_X2_66 (rX0 F hI (b := b) hb) rfl ⟨Nat.le_of_ble_eq_true rfl, Nat.le_of_ble_eq_true rfl⟩ ⟨Nat.zero_le _, Nat.zero_le _⟩ rfl (Nat.le_of_ble_eq_true rfl) dX2_exactShareIn_24) (fun r108 v109 H locs hI hp107 => ?_)
    rw [el_lt (by omega) (by decide)] at hp107
    subst hp107
    refine tI (show _ = nI 5 by rw [← hk1]; exact (hR.2 j hj).1) ?_
    refine lv_tableIn (tgt := 159) hx hy dX2_exactShareIn_27 (by decide) (by decide) (by rfl) (by decide) ?_
    refine zc F K_X2_77 dX2_exactShareIn_159 ?_
    refine tI (show _ = nI 65536 from rfl) ?_
    refine lv_iload hx hy dX2_exactShareIn_161 (lv_at hl 0 rfl) ?_
    refine lv_isub hx hy dX2_exactShareIn_163 ?_
    refine tI (pk_sub (a := 65536) (b := ex f (f j).2.1) (by omega)) ?_
    exact rI hQ F (v := ()) hI dX2_exactShareIn_164 (by rw [ex_eq hok]; simp [exS, hk1])
  · have hA := hok.2.2.1 (by omega)
    have hD := hok.2.2.2.2.2.1 hk1
    have xA := hX (f j).2.1 hA
    have lA := hL (f j).2.1 hA
    refine lv_aload_n hx hy dX2_exactShareIn_0 rfl (lv_at hl 1 rfl) ?_
    refine lv_iload_n hx hy dX2_exactShareIn_1 rfl (lv_at hl 2 rfl) ?_
    refine lv_iconst (v := nI 1) hx hy dX2_exactShareIn_2 (by decide) ?_
    refine zI hI (xV F hI hl (kX0_numberOf l E (u) (b := b) hb (nI j) (nI 1)) M_X2_60 (rX0 F hI (b := b) hb) rfl ⟨Nat.le_of_ble_eq_true rfl, Nat.le_of_ble_eq_true rfl⟩ ⟨Nat.zero_le _, Nat.zero_le _⟩ rfl (Nat.le_of_ble_eq_true rfl) dX2_exactShareIn_3) (fun r111 v112 H locs hI hp110 => ?_)
    rw [show nI j * nI 3 + nI 1 - nI 1 = nI (3 * j) from ix3 j 0, el_lt (by omega) (by decide)] at hp110
    subst hp110
    refine tI (hR.2 j hj).2.1 ?_
    refine lv_istore_n (lv' := [(3, .int (nI ((f j).2.1))), (0, .ref (eA E 5)), (1, .ref (eA E (10 + 3 * b))), (2, .int (nI j))]) hx hy dX2_exactShareIn_6 rfl hl (by decide) rfl (fun ls hl => ?_)
    refine lv_aload_n hx hy dX2_exactShareIn_7 rfl (lv_at hl 2 rfl) ?_
    refine lv_iload_n hx hy dX2_exactShareIn_8 rfl (lv_at hl 3 rfl) ?_
    refine lv_iconst (v := nI 2) hx hy dX2_exactShareIn_9 (by decide) ?_
    refine zI hI (xV F hI hl (kX0_numberOf l E (u) (b := b) hb (nI j) (nI 2)) M_X2_60 (rX0 F hI (b := b) hb) rfl ⟨Nat.le_of_ble_eq_true rfl, Nat.le_of_ble_eq_true rfl⟩ ⟨Nat.zero_le _, Nat.zero_le _⟩ rfl (Nat.le_of_ble_eq_true rfl) dX2_exactShareIn_10) (fun r114 v115 H locs hI hp113 => ?_)
    rw [show nI j * nI 3 + nI 2 - nI 1 = nI (3 * j + 1) from ix3 j 1, el_lt (by omega) (by decide)] at hp113
    subst hp113
    refine tI (hR.2 j hj).2.2.1 ?_
    refine lv_istore (lv' := [(4, .int (nI ((f j).2.2.1))), (3, .int (nI ((f j).2.1))), (0, .ref (eA E 5)), (1, .ref (eA E (10 + 3 * b))), (2, .int (nI j))]) hx hy dX2_exactShareIn_13 hl (by decide) rfl (fun ls hl => ?_)
    refine lv_aload_n hx hy dX2_exactShareIn_15 rfl (lv_at hl 2 rfl) ?_
    refine lv_iload_n hx hy dX2_exactShareIn_16 rfl (lv_at hl 1 rfl) ?_
    refine zI hI (xV F hI hl (kX2_exactShareOf l E (u) (nI ((f j).2.1))) M_X2_63 (rX2 F hI) rfl ⟨Nat.le_of_ble_eq_true rfl, Nat.le_of_ble_eq_true rfl⟩ ⟨Nat.zero_le _, Nat.zero_le _⟩ rfl (Nat.le_of_ble_eq_true rfl) dX2_exactShareIn_17) (fun r117 v118 H locs hI hp116 => ?_)
    rw [el_lt (by omega) (by decide)] at hp116
    subst hp116
    refine tI xA ?_
    refine lv_istore (lv' := [(5, .int (nI (ex f (f j).2.1))), (4, .int (nI ((f j).2.2.1))), (3, .int (nI ((f j).2.1))), (0, .ref (eA E 5)), (1, .ref (eA E (10 + 3 * b))), (2, .int (nI j))]) hx hy dX2_exactShareIn_20 hl (by decide) rfl (fun ls hl => ?_)
    refine lv_aload_n hx hy dX2_exactShareIn_22 rfl (lv_at hl 4 rfl) ?_
    refine lv_iload_n hx hy dX2_exactShareIn_23 rfl (lv_at hl 5 rfl) ?_
    refine zI hI (xV F hI hl (kX0_kindOf l E (u) (b := b) hb (nI j)) M_X2_66 (rX0 F hI (b := b) hb) rfl ⟨Nat.le_of_ble_eq_true rfl, Nat.le_of_ble_eq_true rfl⟩ ⟨Nat.zero_le _, Nat.zero_le _⟩ rfl (Nat.le_of_ble_eq_true rfl) dX2_exactShareIn_24) (fun r120 v121 H locs hI hp119 => ?_)
    rw [el_lt (by omega) (by decide)] at hp119
    subst hp119
    refine tI (show _ = nI 6 by rw [← hk1]; exact (hR.2 j hj).1) ?_
    refine lv_tableOut (tgt := 165) hx hy dX2_exactShareIn_27 (by decide) (by decide) ?_
    refine lv_iload hx hy dX2_exactShareIn_165 (lv_at hl 0 rfl) ?_
    exact rI hQ F (v := ()) hI dX2_exactShareIn_167 (by rw [ex_eq hok]; simp [exS, hk1])
set_option maxHeartbeats 400000 in
set_option maxRecDepth 100000 in
theorem kX2_depthIn (l : Launch) (E : EV) (u : SS) {b n : Nat} {f : Nat → Ln} (hb : b < 7) (hR : RepL b u.1 n f) (h16 : n ≤ 16) (j : Nat) (hj : j < n) (hok : LnOk j (f j)) (hX : ∀ i, i < j → u.1 4 i = nI (dp f i)) (hL : ∀ i, i < j → dp f i ≤ 16) : CT l yX2_depthIn cX2_depthIn 6 (some .int) (Rm 2 43) [.ref (eA E 5), .ref (eA E (10 + 3 * b)), .int (nI j)] E u (Q_i E (fun r _ => r = nI (dp f j)) (fun (_ : Unit) => u)) := by
  refine mstart RX2 (by decide +kernel) rfl (Nat.le_of_ble_eq_true rfl) ?_
  intro p e s m args below meth co ls Q hQ F hI hl
  have hx := F.1
  have hy := F.2.1
  have hl : lv_has ls 6 [(0, .ref (eA E 5)), (1, .ref (eA E (10 + 3 * b))), (2, .int (nI j))] := hl
  have hk6 := hok.1
  rcases (show (f j).1 = 0 ∨ (f j).1 = 1 ∨ (f j).1 = 2 ∨ (f j).1 = 3 ∨ (f j).1 = 4 ∨ (f j).1 = 5 ∨ (f j).1 = 6 by omega) with hk1 | hk1 | hk1 | hk1 | hk1 | hk1 | hk1
  · refine lv_iconst (v := nI 0) hx hy dX2_depthIn_0 (by decide) ?_
    refine lv_istore_n (lv' := [(3, .int (nI 0)), (0, .ref (eA E 5)), (1, .ref (eA E (10 + 3 * b))), (2, .int (nI j))]) hx hy dX2_depthIn_1 rfl hl (by decide) rfl (fun ls hl => ?_)
    refine lv_aload_n hx hy dX2_depthIn_2 rfl (lv_at hl 2 rfl) ?_
    refine lv_iload_n hx hy dX2_depthIn_3 rfl (lv_at hl 3 rfl) ?_
    refine zI hI (xV F hI hl (kX0_kindOf l E (u) (b := b) hb (nI j)) M_X2_66 (rX0 F hI (b := b) hb) rfl ⟨Nat.le_of_ble_eq_true rfl, Nat.le_of_ble_eq_true rfl⟩ ⟨Nat.zero_le _, Nat.zero_le _⟩ rfl (Nat.le_of_ble_eq_true rfl) dX2_depthIn_4) (fun r3 v4 H locs hI hp2 => ?_)
    rw [el_lt (by omega) (by decide)] at hp2
    subst hp2
    refine tI (show _ = nI 0 by rw [← hk1]; exact (hR.2 j hj).1) ?_
    refine zI hI (xS F hI hl (kX5_linesOfKind l E (u) 0 (by omega)) M_X2_80 rfl ⟨Nat.le_of_ble_eq_true rfl, Nat.le_of_ble_eq_true rfl⟩ ⟨Nat.zero_le _, Nat.zero_le _⟩ rfl (Nat.le_of_ble_eq_true rfl) dX2_depthIn_7) (fun r6 v7 H locs hI hp5 => ?_)
    subst hp5
    refine tI (show _ = nI 0 from rfl) ?_
    refine lv_istore (lv' := [(4, .int (nI 0)), (3, .int (nI 0)), (0, .ref (eA E 5)), (1, .ref (eA E (10 + 3 * b))), (2, .int (nI j))]) hx hy dX2_depthIn_10 hl (by decide) rfl (fun ls hl => ?_)
    refine lv_iconst (v := nI 1) hx hy dX2_depthIn_12 (by decide) ?_
    refine lv_istore (lv' := [(5, .int (nI 1)), (4, .int (nI 0)), (3, .int (nI 0)), (0, .ref (eA E 5)), (1, .ref (eA E (10 + 3 * b))), (2, .int (nI j))]) hx hy dX2_depthIn_13 hl (by decide) rfl (fun ls hl => ?_)
    refine lv_iload hx hy dX2_depthIn_15 (lv_at hl 0 rfl) ?_
    refine lv_iload hx hy dX2_depthIn_17 (lv_at hl 1 rfl) ?_
    refine lv_icmp_gt (tgt := 46) hx hy dX2_depthIn_19 (by decide) (fun _ => ?_) (fun q => absurd q (by decide))
    refine lv_iload_n hx hy dX2_depthIn_46 rfl (lv_at hl 2 rfl) ?_
    exact rI hQ F (v := ()) hI dX2_depthIn_47 (by rw [dp_eq hok]; simp [dpS, hk1])
  · have hA := hok.2.2.1 (by omega)
    have hB := hok.2.2.2.1 (by omega) (by omega)
    have xA := hX (f j).2.1 hA
    have lA := hL (f j).2.1 hA
    have xB := hX (f j).2.2.1 hB
    have lB := hL (f j).2.2.1 hB
    refine lv_iconst (v := nI 0) hx hy dX2_depthIn_0 (by decide) ?_
    refine lv_istore_n (lv' := [(3, .int (nI 0)), (0, .ref (eA E 5)), (1, .ref (eA E (10 + 3 * b))), (2, .int (nI j))]) hx hy dX2_depthIn_1 rfl hl (by decide) rfl (fun ls hl => ?_)
    refine lv_aload_n hx hy dX2_depthIn_2 rfl (lv_at hl 2 rfl) ?_
    refine lv_iload_n hx hy dX2_depthIn_3 rfl (lv_at hl 3 rfl) ?_
    refine zI hI (xV F hI hl (kX0_kindOf l E (u) (b := b) hb (nI j)) M_X2_66 (rX0 F hI (b := b) hb) rfl ⟨Nat.le_of_ble_eq_true rfl, Nat.le_of_ble_eq_true rfl⟩ ⟨Nat.zero_le _, Nat.zero_le _⟩ rfl (Nat.le_of_ble_eq_true rfl) dX2_depthIn_4) (fun r9 v10 H locs hI hp8 => ?_)
    rw [el_lt (by omega) (by decide)] at hp8
    subst hp8
    refine tI (show _ = nI 1 by rw [← hk1]; exact (hR.2 j hj).1) ?_
    refine zI hI (xS F hI hl (kX5_linesOfKind l E (u) 1 (by omega)) M_X2_80 rfl ⟨Nat.le_of_ble_eq_true rfl, Nat.le_of_ble_eq_true rfl⟩ ⟨Nat.zero_le _, Nat.zero_le _⟩ rfl (Nat.le_of_ble_eq_true rfl) dX2_depthIn_7) (fun r12 v13 H locs hI hp11 => ?_)
    subst hp11
    refine tI (show _ = nI 2 from rfl) ?_
    refine lv_istore (lv' := [(4, .int (nI 2)), (3, .int (nI 0)), (0, .ref (eA E 5)), (1, .ref (eA E (10 + 3 * b))), (2, .int (nI j))]) hx hy dX2_depthIn_10 hl (by decide) rfl (fun ls hl => ?_)
    refine lv_iconst (v := nI 1) hx hy dX2_depthIn_12 (by decide) ?_
    refine lv_istore (lv' := [(5, .int (nI 1)), (4, .int (nI 2)), (3, .int (nI 0)), (0, .ref (eA E 5)), (1, .ref (eA E (10 + 3 * b))), (2, .int (nI j))]) hx hy dX2_depthIn_13 hl (by decide) rfl (fun ls hl => ?_)
    refine lv_iload hx hy dX2_depthIn_15 (lv_at hl 0 rfl) ?_
    refine lv_iload hx hy dX2_depthIn_17 (lv_at hl 1 rfl) ?_
    refine lv_icmp_gt (tgt := 46) hx hy dX2_depthIn_19 (by decide) (fun q => absurd q (by decide)) (fun _ => ?_)
    refine lv_iload_n hx hy dX2_depthIn_22 rfl (lv_at hl 2 rfl) ?_
    refine lv_iconst (v := nI 1) hx hy dX2_depthIn_23 (by decide) ?_
    refine lv_aload_n hx hy dX2_depthIn_24 rfl (lv_at hl 3 rfl) ?_
    refine lv_aload_n hx hy dX2_depthIn_25 rfl (lv_at hl 4 rfl) ?_
    refine lv_iload_n hx hy dX2_depthIn_26 rfl (lv_at hl 5 rfl) ?_
    refine lv_iload hx hy dX2_depthIn_27 (lv_at hl 0 rfl) ?_
    refine zI hI (xV F hI hl (kX0_numberOf l E (u) (b := b) hb (nI j) (nI 1)) M_X2_60 (rX0 F hI (b := b) hb) rfl ⟨Nat.le_of_ble_eq_true rfl, Nat.le_of_ble_eq_true rfl⟩ ⟨Nat.zero_le _, Nat.zero_le _⟩ rfl (Nat.le_of_ble_eq_true rfl) dX2_depthIn_29) (fun r15 v16 H locs hI hp14 => ?_)
    rw [show nI j * nI 3 + nI 1 - nI 1 = nI (3 * j) from ix3 j 0, el_lt (by omega) (by decide)] at hp14
    subst hp14
    refine tI (hR.2 j hj).2.1 ?_
    refine zI hI (xV F hI hl (kX2_depthOf l E (u) (nI ((f j).2.1))) M_X2_51 (rX2 F hI) rfl ⟨Nat.le_of_ble_eq_true rfl, Nat.le_of_ble_eq_true rfl⟩ ⟨Nat.zero_le _, Nat.zero_le _⟩ rfl (Nat.le_of_ble_eq_true rfl) dX2_depthIn_32) (fun r18 v19 H locs hI hp17 => ?_)
    rw [el_lt (by omega) (by decide)] at hp17
    subst hp17
    refine tI xA ?_
    refine lv_iadd hx hy dX2_depthIn_35 ?_
    refine tI (nI_add (1) (dp f (f j).2.1)) ?_
    refine zm_max F hl M_X2_54 ⟨Nat.le_of_ble_eq_true rfl, Nat.le_of_ble_eq_true rfl⟩ ⟨Nat.zero_le _, Nat.zero_le _⟩ dX2_depthIn_36 ?_
    refine tI (mx_nI (a := 0) (b := 1 + dp f (f j).2.1) (by omega) (by omega)) ?_
    refine lv_istore_n (lv' := [(3, .int (nI (max (0) (1 + dp f (f j).2.1)))), (5, .int (nI 1)), (4, .int (nI 2)), (0, .ref (eA E 5)), (1, .ref (eA E (10 + 3 * b))), (2, .int (nI j))]) hx hy dX2_depthIn_39 rfl hl (by decide) rfl (fun ls hl => ?_)
    refine lv_iinc (v := nI 2) (lv' := [(5, .int (nI 2)), (3, .int (nI (max (0) (1 + dp f (f j).2.1)))), (4, .int (nI 2)), (0, .ref (eA E 5)), (1, .ref (eA E (10 + 3 * b))), (2, .int (nI j))]) hx hy dX2_depthIn_40 hl (k := 1) rfl rfl (by decide) rfl (fun ls hl => ?_)
    refine lv_goto (tgt := 15) hx hy dX2_depthIn_43 (by decide) ?_
    refine lv_iload hx hy dX2_depthIn_15 (lv_at hl 0 rfl) ?_
    refine lv_iload hx hy dX2_depthIn_17 (lv_at hl 2 rfl) ?_
    refine lv_icmp_gt (tgt := 46) hx hy dX2_depthIn_19 (by decide) (fun q => absurd q (by decide)) (fun _ => ?_)
    refine lv_iload_n hx hy dX2_depthIn_22 rfl (lv_at hl 1 rfl) ?_
    refine lv_iconst (v := nI 1) hx hy dX2_depthIn_23 (by decide) ?_
    refine lv_aload_n hx hy dX2_depthIn_24 rfl (lv_at hl 3 rfl) ?_
    refine lv_aload_n hx hy dX2_depthIn_25 rfl (lv_at hl 4 rfl) ?_
    refine lv_iload_n hx hy dX2_depthIn_26 rfl (lv_at hl 5 rfl) ?_
    refine lv_iload hx hy dX2_depthIn_27 (lv_at hl 0 rfl) ?_
    refine zI hI (xV F hI hl (kX0_numberOf l E (u) (b := b) hb (nI j) (nI 2)) M_X2_60 (rX0 F hI (b := b) hb) rfl ⟨Nat.le_of_ble_eq_true rfl, Nat.le_of_ble_eq_true rfl⟩ ⟨Nat.zero_le _, Nat.zero_le _⟩ rfl (Nat.le_of_ble_eq_true rfl) dX2_depthIn_29) (fun r21 v22 H locs hI hp20 => ?_)
    rw [show nI j * nI 3 + nI 2 - nI 1 = nI (3 * j + 1) from ix3 j 1, el_lt (by omega) (by decide)] at hp20
    subst hp20
    refine tI (hR.2 j hj).2.2.1 ?_
    refine zI hI (xV F hI hl (kX2_depthOf l E (u) (nI ((f j).2.2.1))) M_X2_51 (rX2 F hI) rfl ⟨Nat.le_of_ble_eq_true rfl, Nat.le_of_ble_eq_true rfl⟩ ⟨Nat.zero_le _, Nat.zero_le _⟩ rfl (Nat.le_of_ble_eq_true rfl) dX2_depthIn_32) (fun r24 v25 H locs hI hp23 => ?_)
    rw [el_lt (by omega) (by decide)] at hp23
    subst hp23
    refine tI xB ?_
    refine lv_iadd hx hy dX2_depthIn_35 ?_
    refine tI (nI_add (1) (dp f (f j).2.2.1)) ?_
    refine zm_max F hl M_X2_54 ⟨Nat.le_of_ble_eq_true rfl, Nat.le_of_ble_eq_true rfl⟩ ⟨Nat.zero_le _, Nat.zero_le _⟩ dX2_depthIn_36 ?_
    refine tI (mx_nI (a := max (0) (1 + dp f (f j).2.1)) (b := 1 + dp f (f j).2.2.1) (by omega) (by omega)) ?_
    refine lv_istore_n (lv' := [(3, .int (nI (max (max (0) (1 + dp f (f j).2.1)) (1 + dp f (f j).2.2.1)))), (5, .int (nI 2)), (4, .int (nI 2)), (0, .ref (eA E 5)), (1, .ref (eA E (10 + 3 * b))), (2, .int (nI j))]) hx hy dX2_depthIn_39 rfl hl (by decide) rfl (fun ls hl => ?_)
    refine lv_iinc (v := nI 3) (lv' := [(5, .int (nI 3)), (3, .int (nI (max (max (0) (1 + dp f (f j).2.1)) (1 + dp f (f j).2.2.1)))), (4, .int (nI 2)), (0, .ref (eA E 5)), (1, .ref (eA E (10 + 3 * b))), (2, .int (nI j))]) hx hy dX2_depthIn_40 hl (k := 1) rfl rfl (by decide) rfl (fun ls hl => ?_)
    refine lv_goto (tgt := 15) hx hy dX2_depthIn_43 (by decide) ?_
    refine lv_iload hx hy dX2_depthIn_15 (lv_at hl 0 rfl) ?_
    refine lv_iload hx hy dX2_depthIn_17 (lv_at hl 2 rfl) ?_
    refine lv_icmp_gt (tgt := 46) hx hy dX2_depthIn_19 (by decide) (fun _ => ?_) (fun q => absurd q (by decide))
    refine lv_iload_n hx hy dX2_depthIn_46 rfl (lv_at hl 1 rfl) ?_
    exact rI hQ F (v := ()) hI dX2_depthIn_47 (by rw [dp_eq hok]; simp [dpS, hk1])
  · have hA := hok.2.2.1 (by omega)
    have hB := hok.2.2.2.1 (by omega) (by omega)
    have xA := hX (f j).2.1 hA
    have lA := hL (f j).2.1 hA
    have xB := hX (f j).2.2.1 hB
    have lB := hL (f j).2.2.1 hB
    refine lv_iconst (v := nI 0) hx hy dX2_depthIn_0 (by decide) ?_
    refine lv_istore_n (lv' := [(3, .int (nI 0)), (0, .ref (eA E 5)), (1, .ref (eA E (10 + 3 * b))), (2, .int (nI j))]) hx hy dX2_depthIn_1 rfl hl (by decide) rfl (fun ls hl => ?_)
    refine lv_aload_n hx hy dX2_depthIn_2 rfl (lv_at hl 2 rfl) ?_
    refine lv_iload_n hx hy dX2_depthIn_3 rfl (lv_at hl 3 rfl) ?_
    refine zI hI (xV F hI hl (kX0_kindOf l E (u) (b := b) hb (nI j)) M_X2_66 (rX0 F hI (b := b) hb) rfl ⟨Nat.le_of_ble_eq_true rfl, Nat.le_of_ble_eq_true rfl⟩ ⟨Nat.zero_le _, Nat.zero_le _⟩ rfl (Nat.le_of_ble_eq_true rfl) dX2_depthIn_4) (fun r27 v28 H locs hI hp26 => ?_)
    rw [el_lt (by omega) (by decide)] at hp26
    subst hp26
    refine tI (show _ = nI 2 by rw [← hk1]; exact (hR.2 j hj).1) ?_
    refine zI hI (xS F hI hl (kX5_linesOfKind l E (u) 2 (by omega)) M_X2_80 rfl ⟨Nat.le_of_ble_eq_true rfl, Nat.le_of_ble_eq_true rfl⟩ ⟨Nat.zero_le _, Nat.zero_le _⟩ rfl (Nat.le_of_ble_eq_true rfl) dX2_depthIn_7) (fun r30 v31 H locs hI hp29 => ?_)
    subst hp29
    refine tI (show _ = nI 2 from rfl) ?_
    refine lv_istore (lv' := [(4, .int (nI 2)), (3, .int (nI 0)), (0, .ref (eA E 5)), (1, .ref (eA E (10 + 3 * b))), (2, .int (nI j))]) hx hy dX2_depthIn_10 hl (by decide) rfl (fun ls hl => ?_)
    refine lv_iconst (v := nI 1) hx hy dX2_depthIn_12 (by decide) ?_
    refine lv_istore (lv' := [(5, .int (nI 1)), (4, .int (nI 2)), (3, .int (nI 0)), (0, .ref (eA E 5)), (1, .ref (eA E (10 + 3 * b))), (2, .int (nI j))]) hx hy dX2_depthIn_13 hl (by decide) rfl (fun ls hl => ?_)
    refine lv_iload hx hy dX2_depthIn_15 (lv_at hl 0 rfl) ?_
    refine lv_iload hx hy dX2_depthIn_17 (lv_at hl 1 rfl) ?_
    refine lv_icmp_gt (tgt := 46) hx hy dX2_depthIn_19 (by decide) (fun q => absurd q (by decide)) (fun _ => ?_)
    refine lv_iload_n hx hy dX2_depthIn_22 rfl (lv_at hl 2 rfl) ?_
    refine lv_iconst (v := nI 1) hx hy dX2_depthIn_23 (by decide) ?_
    refine lv_aload_n hx hy dX2_depthIn_24 rfl (lv_at hl 3 rfl) ?_
    refine lv_aload_n hx hy dX2_depthIn_25 rfl (lv_at hl 4 rfl) ?_
    refine lv_iload_n hx hy dX2_depthIn_26 rfl (lv_at hl 5 rfl) ?_
    refine lv_iload hx hy dX2_depthIn_27 (lv_at hl 0 rfl) ?_
    refine zI hI (xV F hI hl (kX0_numberOf l E (u) (b := b) hb (nI j) (nI 1)) M_X2_60 (rX0 F hI (b := b) hb) rfl ⟨Nat.le_of_ble_eq_true rfl, Nat.le_of_ble_eq_true rfl⟩ ⟨Nat.zero_le _, Nat.zero_le _⟩ rfl (Nat.le_of_ble_eq_true rfl) dX2_depthIn_29) (fun r33 v34 H locs hI hp32 => ?_)
    rw [show nI j * nI 3 + nI 1 - nI 1 = nI (3 * j) from ix3 j 0, el_lt (by omega) (by decide)] at hp32
    subst hp32
    refine tI (hR.2 j hj).2.1 ?_
    refine zI hI (xV F hI hl (kX2_depthOf l E (u) (nI ((f j).2.1))) M_X2_51 (rX2 F hI) rfl ⟨Nat.le_of_ble_eq_true rfl, Nat.le_of_ble_eq_true rfl⟩ ⟨Nat.zero_le _, Nat.zero_le _⟩ rfl (Nat.le_of_ble_eq_true rfl) dX2_depthIn_32) (fun r36 v37 H locs hI hp35 => ?_)
    rw [el_lt (by omega) (by decide)] at hp35
    subst hp35
    refine tI xA ?_
    refine lv_iadd hx hy dX2_depthIn_35 ?_
    refine tI (nI_add (1) (dp f (f j).2.1)) ?_
    refine zm_max F hl M_X2_54 ⟨Nat.le_of_ble_eq_true rfl, Nat.le_of_ble_eq_true rfl⟩ ⟨Nat.zero_le _, Nat.zero_le _⟩ dX2_depthIn_36 ?_
    refine tI (mx_nI (a := 0) (b := 1 + dp f (f j).2.1) (by omega) (by omega)) ?_
    refine lv_istore_n (lv' := [(3, .int (nI (max (0) (1 + dp f (f j).2.1)))), (5, .int (nI 1)), (4, .int (nI 2)), (0, .ref (eA E 5)), (1, .ref (eA E (10 + 3 * b))), (2, .int (nI j))]) hx hy dX2_depthIn_39 rfl hl (by decide) rfl (fun ls hl => ?_)
    refine lv_iinc (v := nI 2) (lv' := [(5, .int (nI 2)), (3, .int (nI (max (0) (1 + dp f (f j).2.1)))), (4, .int (nI 2)), (0, .ref (eA E 5)), (1, .ref (eA E (10 + 3 * b))), (2, .int (nI j))]) hx hy dX2_depthIn_40 hl (k := 1) rfl rfl (by decide) rfl (fun ls hl => ?_)
    refine lv_goto (tgt := 15) hx hy dX2_depthIn_43 (by decide) ?_
    refine lv_iload hx hy dX2_depthIn_15 (lv_at hl 0 rfl) ?_
    refine lv_iload hx hy dX2_depthIn_17 (lv_at hl 2 rfl) ?_
    refine lv_icmp_gt (tgt := 46) hx hy dX2_depthIn_19 (by decide) (fun q => absurd q (by decide)) (fun _ => ?_)
    refine lv_iload_n hx hy dX2_depthIn_22 rfl (lv_at hl 1 rfl) ?_
    refine lv_iconst (v := nI 1) hx hy dX2_depthIn_23 (by decide) ?_
    refine lv_aload_n hx hy dX2_depthIn_24 rfl (lv_at hl 3 rfl) ?_
    refine lv_aload_n hx hy dX2_depthIn_25 rfl (lv_at hl 4 rfl) ?_
    refine lv_iload_n hx hy dX2_depthIn_26 rfl (lv_at hl 5 rfl) ?_
    refine lv_iload hx hy dX2_depthIn_27 (lv_at hl 0 rfl) ?_
    refine zI hI (xV F hI hl (kX0_numberOf l E (u) (b := b) hb (nI j) (nI 2)) M_X2_60 (rX0 F hI (b := b) hb) rfl ⟨Nat.le_of_ble_eq_true rfl, Nat.le_of_ble_eq_true rfl⟩ ⟨Nat.zero_le _, Nat.zero_le _⟩ rfl (Nat.le_of_ble_eq_true rfl) dX2_depthIn_29) (fun r39 v40 H locs hI hp38 => ?_)
    rw [show nI j * nI 3 + nI 2 - nI 1 = nI (3 * j + 1) from ix3 j 1, el_lt (by omega) (by decide)] at hp38
    subst hp38
    refine tI (hR.2 j hj).2.2.1 ?_
    refine zI hI (xV F hI hl (kX2_depthOf l E (u) (nI ((f j).2.2.1))) M_X2_51 (rX2 F hI) rfl ⟨Nat.le_of_ble_eq_true rfl, Nat.le_of_ble_eq_true rfl⟩ ⟨Nat.zero_le _, Nat.zero_le _⟩ rfl (Nat.le_of_ble_eq_true rfl) dX2_depthIn_32) (fun r42 v43 H locs hI hp41 => ?_)
    rw [el_lt (by omega) (by decide)] at hp41
    subst hp41
    refine tI xB ?_
    refine lv_iadd hx hy dX2_depthIn_35 ?_
    refine tI (nI_add (1) (dp f (f j).2.2.1)) ?_
    refine zm_max F hl M_X2_54 ⟨Nat.le_of_ble_eq_true rfl, Nat.le_of_ble_eq_true rfl⟩ ⟨Nat.zero_le _, Nat.zero_le _⟩ dX2_depthIn_36 ?_
    refine tI (mx_nI (a := max (0) (1 + dp f (f j).2.1)) (b := 1 + dp f (f j).2.2.1) (by omega) (by omega)) ?_
    refine lv_istore_n (lv' := [(3, .int (nI (max (max (0) (1 + dp f (f j).2.1)) (1 + dp f (f j).2.2.1)))), (5, .int (nI 2)), (4, .int (nI 2)), (0, .ref (eA E 5)), (1, .ref (eA E (10 + 3 * b))), (2, .int (nI j))]) hx hy dX2_depthIn_39 rfl hl (by decide) rfl (fun ls hl => ?_)
    refine lv_iinc (v := nI 3) (lv' := [(5, .int (nI 3)), (3, .int (nI (max (max (0) (1 + dp f (f j).2.1)) (1 + dp f (f j).2.2.1)))), (4, .int (nI 2)), (0, .ref (eA E 5)), (1, .ref (eA E (10 + 3 * b))), (2, .int (nI j))]) hx hy dX2_depthIn_40 hl (k := 1) rfl rfl (by decide) rfl (fun ls hl => ?_)
    refine lv_goto (tgt := 15) hx hy dX2_depthIn_43 (by decide) ?_
    refine lv_iload hx hy dX2_depthIn_15 (lv_at hl 0 rfl) ?_
    refine lv_iload hx hy dX2_depthIn_17 (lv_at hl 2 rfl) ?_
    refine lv_icmp_gt (tgt := 46) hx hy dX2_depthIn_19 (by decide) (fun _ => ?_) (fun q => absurd q (by decide))
    refine lv_iload_n hx hy dX2_depthIn_46 rfl (lv_at hl 1 rfl) ?_
    exact rI hQ F (v := ()) hI dX2_depthIn_47 (by rw [dp_eq hok]; simp [dpS, hk1])
  · have hA := hok.2.2.1 (by omega)
    have hB := hok.2.2.2.1 (by omega) (by omega)
    have xA := hX (f j).2.1 hA
    have lA := hL (f j).2.1 hA
    have xB := hX (f j).2.2.1 hB
    have lB := hL (f j).2.2.1 hB
    refine lv_iconst (v := nI 0) hx hy dX2_depthIn_0 (by decide) ?_
    refine lv_istore_n (lv' := [(3, .int (nI 0)), (0, .ref (eA E 5)), (1, .ref (eA E (10 + 3 * b))), (2, .int (nI j))]) hx hy dX2_depthIn_1 rfl hl (by decide) rfl (fun ls hl => ?_)
    refine lv_aload_n hx hy dX2_depthIn_2 rfl (lv_at hl 2 rfl) ?_
    refine lv_iload_n hx hy dX2_depthIn_3 rfl (lv_at hl 3 rfl) ?_
    refine zI hI (xV F hI hl (kX0_kindOf l E (u) (b := b) hb (nI j)) M_X2_66 (rX0 F hI (b := b) hb) rfl ⟨Nat.le_of_ble_eq_true rfl, Nat.le_of_ble_eq_true rfl⟩ ⟨Nat.zero_le _, Nat.zero_le _⟩ rfl (Nat.le_of_ble_eq_true rfl) dX2_depthIn_4) (fun r45 v46 H locs hI hp44 => ?_)
    rw [el_lt (by omega) (by decide)] at hp44
    subst hp44
    refine tI (show _ = nI 3 by rw [← hk1]; exact (hR.2 j hj).1) ?_
    refine zI hI (xS F hI hl (kX5_linesOfKind l E (u) 3 (by omega)) M_X2_80 rfl ⟨Nat.le_of_ble_eq_true rfl, Nat.le_of_ble_eq_true rfl⟩ ⟨Nat.zero_le _, Nat.zero_le _⟩ rfl (Nat.le_of_ble_eq_true rfl) dX2_depthIn_7) (fun r48 v49 H locs hI hp47 => ?_)
    subst hp47
    refine tI (show _ = nI 2 from rfl) ?_
    refine lv_istore (lv' := [(4, .int (nI 2)), (3, .int (nI 0)), (0, .ref (eA E 5)), (1, .ref (eA E (10 + 3 * b))), (2, .int (nI j))]) hx hy dX2_depthIn_10 hl (by decide) rfl (fun ls hl => ?_)
    refine lv_iconst (v := nI 1) hx hy dX2_depthIn_12 (by decide) ?_
    refine lv_istore (lv' := [(5, .int (nI 1)), (4, .int (nI 2)), (3, .int (nI 0)), (0, .ref (eA E 5)), (1, .ref (eA E (10 + 3 * b))), (2, .int (nI j))]) hx hy dX2_depthIn_13 hl (by decide) rfl (fun ls hl => ?_)
    refine lv_iload hx hy dX2_depthIn_15 (lv_at hl 0 rfl) ?_
    refine lv_iload hx hy dX2_depthIn_17 (lv_at hl 1 rfl) ?_
    refine lv_icmp_gt (tgt := 46) hx hy dX2_depthIn_19 (by decide) (fun q => absurd q (by decide)) (fun _ => ?_)
    refine lv_iload_n hx hy dX2_depthIn_22 rfl (lv_at hl 2 rfl) ?_
    refine lv_iconst (v := nI 1) hx hy dX2_depthIn_23 (by decide) ?_
    refine lv_aload_n hx hy dX2_depthIn_24 rfl (lv_at hl 3 rfl) ?_
    refine lv_aload_n hx hy dX2_depthIn_25 rfl (lv_at hl 4 rfl) ?_
    refine lv_iload_n hx hy dX2_depthIn_26 rfl (lv_at hl 5 rfl) ?_
    refine lv_iload hx hy dX2_depthIn_27 (lv_at hl 0 rfl) ?_
    refine zI hI (xV F hI hl (kX0_numberOf l E (u) (b := b) hb (nI j) (nI 1)) M_X2_60 (rX0 F hI (b := b) hb) rfl ⟨Nat.le_of_ble_eq_true rfl, Nat.le_of_ble_eq_true rfl⟩ ⟨Nat.zero_le _, Nat.zero_le _⟩ rfl (Nat.le_of_ble_eq_true rfl) dX2_depthIn_29) (fun r51 v52 H locs hI hp50 => ?_)
    rw [show nI j * nI 3 + nI 1 - nI 1 = nI (3 * j) from ix3 j 0, el_lt (by omega) (by decide)] at hp50
    subst hp50
    refine tI (hR.2 j hj).2.1 ?_
    refine zI hI (xV F hI hl (kX2_depthOf l E (u) (nI ((f j).2.1))) M_X2_51 (rX2 F hI) rfl ⟨Nat.le_of_ble_eq_true rfl, Nat.le_of_ble_eq_true rfl⟩ ⟨Nat.zero_le _, Nat.zero_le _⟩ rfl (Nat.le_of_ble_eq_true rfl) dX2_depthIn_32) (fun r54 v55 H locs hI hp53 => ?_)
    rw [el_lt (by omega) (by decide)] at hp53
    subst hp53
    refine tI xA ?_
    refine lv_iadd hx hy dX2_depthIn_35 ?_
    refine tI (nI_add (1) (dp f (f j).2.1)) ?_
    refine zm_max F hl M_X2_54 ⟨Nat.le_of_ble_eq_true rfl, Nat.le_of_ble_eq_true rfl⟩ ⟨Nat.zero_le _, Nat.zero_le _⟩ dX2_depthIn_36 ?_
    refine tI (mx_nI (a := 0) (b := 1 + dp f (f j).2.1) (by omega) (by omega)) ?_
    refine lv_istore_n (lv' := [(3, .int (nI (max (0) (1 + dp f (f j).2.1)))), (5, .int (nI 1)), (4, .int (nI 2)), (0, .ref (eA E 5)), (1, .ref (eA E (10 + 3 * b))), (2, .int (nI j))]) hx hy dX2_depthIn_39 rfl hl (by decide) rfl (fun ls hl => ?_)
    refine lv_iinc (v := nI 2) (lv' := [(5, .int (nI 2)), (3, .int (nI (max (0) (1 + dp f (f j).2.1)))), (4, .int (nI 2)), (0, .ref (eA E 5)), (1, .ref (eA E (10 + 3 * b))), (2, .int (nI j))]) hx hy dX2_depthIn_40 hl (k := 1) rfl rfl (by decide) rfl (fun ls hl => ?_)
    refine lv_goto (tgt := 15) hx hy dX2_depthIn_43 (by decide) ?_
    refine lv_iload hx hy dX2_depthIn_15 (lv_at hl 0 rfl) ?_
    refine lv_iload hx hy dX2_depthIn_17 (lv_at hl 2 rfl) ?_
    refine lv_icmp_gt (tgt := 46) hx hy dX2_depthIn_19 (by decide) (fun q => absurd q (by decide)) (fun _ => ?_)
    refine lv_iload_n hx hy dX2_depthIn_22 rfl (lv_at hl 1 rfl) ?_
    refine lv_iconst (v := nI 1) hx hy dX2_depthIn_23 (by decide) ?_
    refine lv_aload_n hx hy dX2_depthIn_24 rfl (lv_at hl 3 rfl) ?_
    refine lv_aload_n hx hy dX2_depthIn_25 rfl (lv_at hl 4 rfl) ?_
    refine lv_iload_n hx hy dX2_depthIn_26 rfl (lv_at hl 5 rfl) ?_
    refine lv_iload hx hy dX2_depthIn_27 (lv_at hl 0 rfl) ?_
    refine zI hI (xV F hI hl (kX0_numberOf l E (u) (b := b) hb (nI j) (nI 2)) M_X2_60 (rX0 F hI (b := b) hb) rfl ⟨Nat.le_of_ble_eq_true rfl, Nat.le_of_ble_eq_true rfl⟩ ⟨Nat.zero_le _, Nat.zero_le _⟩ rfl (Nat.le_of_ble_eq_true rfl) dX2_depthIn_29) (fun r57 v58 H locs hI hp56 => ?_)
    rw [show nI j * nI 3 + nI 2 - nI 1 = nI (3 * j + 1) from ix3 j 1, el_lt (by omega) (by decide)] at hp56
    subst hp56
    refine tI (hR.2 j hj).2.2.1 ?_
    refine zI hI (xV F hI hl (kX2_depthOf l E (u) (nI ((f j).2.2.1))) M_X2_51 (rX2 F hI) rfl ⟨Nat.le_of_ble_eq_true rfl, Nat.le_of_ble_eq_true rfl⟩ ⟨Nat.zero_le _, Nat.zero_le _⟩ rfl (Nat.le_of_ble_eq_true rfl) dX2_depthIn_32) (fun r60 v61 H locs hI hp59 => ?_)
    rw [el_lt (by omega) (by decide)] at hp59
    subst hp59
    refine tI xB ?_
    refine lv_iadd hx hy dX2_depthIn_35 ?_
    refine tI (nI_add (1) (dp f (f j).2.2.1)) ?_
    refine zm_max F hl M_X2_54 ⟨Nat.le_of_ble_eq_true rfl, Nat.le_of_ble_eq_true rfl⟩ ⟨Nat.zero_le _, Nat.zero_le _⟩ dX2_depthIn_36 ?_
    refine tI (mx_nI (a := max (0) (1 + dp f (f j).2.1)) (b := 1 + dp f (f j).2.2.1) (by omega) (by omega)) ?_
    refine lv_istore_n (lv' := [(3, .int (nI (max (max (0) (1 + dp f (f j).2.1)) (1 + dp f (f j).2.2.1)))), (5, .int (nI 2)), (4, .int (nI 2)), (0, .ref (eA E 5)), (1, .ref (eA E (10 + 3 * b))), (2, .int (nI j))]) hx hy dX2_depthIn_39 rfl hl (by decide) rfl (fun ls hl => ?_)
    refine lv_iinc (v := nI 3) (lv' := [(5, .int (nI 3)), (3, .int (nI (max (max (0) (1 + dp f (f j).2.1)) (1 + dp f (f j).2.2.1)))), (4, .int (nI 2)), (0, .ref (eA E 5)), (1, .ref (eA E (10 + 3 * b))), (2, .int (nI j))]) hx hy dX2_depthIn_40 hl (k := 1) rfl rfl (by decide) rfl (fun ls hl => ?_)
    refine lv_goto (tgt := 15) hx hy dX2_depthIn_43 (by decide) ?_
    refine lv_iload hx hy dX2_depthIn_15 (lv_at hl 0 rfl) ?_
    refine lv_iload hx hy dX2_depthIn_17 (lv_at hl 2 rfl) ?_
    refine lv_icmp_gt (tgt := 46) hx hy dX2_depthIn_19 (by decide) (fun _ => ?_) (fun q => absurd q (by decide))
    refine lv_iload_n hx hy dX2_depthIn_46 rfl (lv_at hl 1 rfl) ?_
    exact rI hQ F (v := ()) hI dX2_depthIn_47 (by rw [dp_eq hok]; simp [dpS, hk1])
  · have hA := hok.2.2.1 (by omega)
    have hB := hok.2.2.2.1 (by omega) (by omega)
    have hC := hok.2.2.2.2.1 hk1
    have xA := hX (f j).2.1 hA
    have lA := hL (f j).2.1 hA
    have xB := hX (f j).2.2.1 hB
    have lB := hL (f j).2.2.1 hB
    have xC := hX (f j).2.2.2 hC
    have lC := hL (f j).2.2.2 hC
    refine lv_iconst (v := nI 0) hx hy dX2_depthIn_0 (by decide) ?_
    refine lv_istore_n (lv' := [(3, .int (nI 0)), (0, .ref (eA E 5)), (1, .ref (eA E (10 + 3 * b))), (2, .int (nI j))]) hx hy dX2_depthIn_1 rfl hl (by decide) rfl (fun ls hl => ?_)
    refine lv_aload_n hx hy dX2_depthIn_2 rfl (lv_at hl 2 rfl) ?_
    refine lv_iload_n hx hy dX2_depthIn_3 rfl (lv_at hl 3 rfl) ?_
    refine zI hI (xV F hI hl (kX0_kindOf l E (u) (b := b) hb (nI j)) M_X2_66 (rX0 F hI (b := b) hb) rfl ⟨Nat.le_of_ble_eq_true rfl, Nat.le_of_ble_eq_true rfl⟩ ⟨Nat.zero_le _, Nat.zero_le _⟩ rfl (Nat.le_of_ble_eq_true rfl) dX2_depthIn_4) (fun r63 v64 H locs hI hp62 => ?_)
    rw [el_lt (by omega) (by decide)] at hp62
    subst hp62
    refine tI (show _ = nI 4 by rw [← hk1]; exact (hR.2 j hj).1) ?_
    refine zI hI (xS F hI hl (kX5_linesOfKind l E (u) 4 (by omega)) M_X2_80 rfl ⟨Nat.le_of_ble_eq_true rfl, Nat.le_of_ble_eq_true rfl⟩ ⟨Nat.zero_le _, Nat.zero_le _⟩ rfl (Nat.le_of_ble_eq_true rfl) dX2_depthIn_7) (fun r66 v67 H locs hI hp65 => ?_)
    subst hp65
    refine tI (show _ = nI 3 from rfl) ?_
    refine lv_istore (lv' := [(4, .int (nI 3)), (3, .int (nI 0)), (0, .ref (eA E 5)), (1, .ref (eA E (10 + 3 * b))), (2, .int (nI j))]) hx hy dX2_depthIn_10 hl (by decide) rfl (fun ls hl => ?_)
    refine lv_iconst (v := nI 1) hx hy dX2_depthIn_12 (by decide) ?_
    refine lv_istore (lv' := [(5, .int (nI 1)), (4, .int (nI 3)), (3, .int (nI 0)), (0, .ref (eA E 5)), (1, .ref (eA E (10 + 3 * b))), (2, .int (nI j))]) hx hy dX2_depthIn_13 hl (by decide) rfl (fun ls hl => ?_)
    refine lv_iload hx hy dX2_depthIn_15 (lv_at hl 0 rfl) ?_
    refine lv_iload hx hy dX2_depthIn_17 (lv_at hl 1 rfl) ?_
    refine lv_icmp_gt (tgt := 46) hx hy dX2_depthIn_19 (by decide) (fun q => absurd q (by decide)) (fun _ => ?_)
    refine lv_iload_n hx hy dX2_depthIn_22 rfl (lv_at hl 2 rfl) ?_
    refine lv_iconst (v := nI 1) hx hy dX2_depthIn_23 (by decide) ?_
    refine lv_aload_n hx hy dX2_depthIn_24 rfl (lv_at hl 3 rfl) ?_
    refine lv_aload_n hx hy dX2_depthIn_25 rfl (lv_at hl 4 rfl) ?_
    refine lv_iload_n hx hy dX2_depthIn_26 rfl (lv_at hl 5 rfl) ?_
    refine lv_iload hx hy dX2_depthIn_27 (lv_at hl 0 rfl) ?_
    refine zI hI (xV F hI hl (kX0_numberOf l E (u) (b := b) hb (nI j) (nI 1)) M_X2_60 (rX0 F hI (b := b) hb) rfl ⟨Nat.le_of_ble_eq_true rfl, Nat.le_of_ble_eq_true rfl⟩ ⟨Nat.zero_le _, Nat.zero_le _⟩ rfl (Nat.le_of_ble_eq_true rfl) dX2_depthIn_29) (fun r69 v70 H locs hI hp68 => ?_)
    rw [show nI j * nI 3 + nI 1 - nI 1 = nI (3 * j) from ix3 j 0, el_lt (by omega) (by decide)] at hp68
    subst hp68
    refine tI (hR.2 j hj).2.1 ?_
    refine zI hI (xV F hI hl (kX2_depthOf l E (u) (nI ((f j).2.1))) M_X2_51 (rX2 F hI) rfl ⟨Nat.le_of_ble_eq_true rfl, Nat.le_of_ble_eq_true rfl⟩ ⟨Nat.zero_le _, Nat.zero_le _⟩ rfl (Nat.le_of_ble_eq_true rfl) dX2_depthIn_32) (fun r72 v73 H locs hI hp71 => ?_)
    rw [el_lt (by omega) (by decide)] at hp71
    subst hp71
    refine tI xA ?_
    refine lv_iadd hx hy dX2_depthIn_35 ?_
    refine tI (nI_add (1) (dp f (f j).2.1)) ?_
    refine zm_max F hl M_X2_54 ⟨Nat.le_of_ble_eq_true rfl, Nat.le_of_ble_eq_true rfl⟩ ⟨Nat.zero_le _, Nat.zero_le _⟩ dX2_depthIn_36 ?_
    refine tI (mx_nI (a := 0) (b := 1 + dp f (f j).2.1) (by omega) (by omega)) ?_
    refine lv_istore_n (lv' := [(3, .int (nI (max (0) (1 + dp f (f j).2.1)))), (5, .int (nI 1)), (4, .int (nI 3)), (0, .ref (eA E 5)), (1, .ref (eA E (10 + 3 * b))), (2, .int (nI j))]) hx hy dX2_depthIn_39 rfl hl (by decide) rfl (fun ls hl => ?_)
    refine lv_iinc (v := nI 2) (lv' := [(5, .int (nI 2)), (3, .int (nI (max (0) (1 + dp f (f j).2.1)))), (4, .int (nI 3)), (0, .ref (eA E 5)), (1, .ref (eA E (10 + 3 * b))), (2, .int (nI j))]) hx hy dX2_depthIn_40 hl (k := 1) rfl rfl (by decide) rfl (fun ls hl => ?_)
    refine lv_goto (tgt := 15) hx hy dX2_depthIn_43 (by decide) ?_
    refine lv_iload hx hy dX2_depthIn_15 (lv_at hl 0 rfl) ?_
    refine lv_iload hx hy dX2_depthIn_17 (lv_at hl 2 rfl) ?_
    refine lv_icmp_gt (tgt := 46) hx hy dX2_depthIn_19 (by decide) (fun q => absurd q (by decide)) (fun _ => ?_)
    refine lv_iload_n hx hy dX2_depthIn_22 rfl (lv_at hl 1 rfl) ?_
    refine lv_iconst (v := nI 1) hx hy dX2_depthIn_23 (by decide) ?_
    refine lv_aload_n hx hy dX2_depthIn_24 rfl (lv_at hl 3 rfl) ?_
    refine lv_aload_n hx hy dX2_depthIn_25 rfl (lv_at hl 4 rfl) ?_
    refine lv_iload_n hx hy dX2_depthIn_26 rfl (lv_at hl 5 rfl) ?_
    refine lv_iload hx hy dX2_depthIn_27 (lv_at hl 0 rfl) ?_
    refine zI hI (xV F hI hl (kX0_numberOf l E (u) (b := b) hb (nI j) (nI 2)) M_X2_60 (rX0 F hI (b := b) hb) rfl ⟨Nat.le_of_ble_eq_true rfl, Nat.le_of_ble_eq_true rfl⟩ ⟨Nat.zero_le _, Nat.zero_le _⟩ rfl (Nat.le_of_ble_eq_true rfl) dX2_depthIn_29) (fun r75 v76 H locs hI hp74 => ?_)
    rw [show nI j * nI 3 + nI 2 - nI 1 = nI (3 * j + 1) from ix3 j 1, el_lt (by omega) (by decide)] at hp74
    subst hp74
    refine tI (hR.2 j hj).2.2.1 ?_
    refine zI hI (xV F hI hl (kX2_depthOf l E (u) (nI ((f j).2.2.1))) M_X2_51 (rX2 F hI) rfl ⟨Nat.le_of_ble_eq_true rfl, Nat.le_of_ble_eq_true rfl⟩ ⟨Nat.zero_le _, Nat.zero_le _⟩ rfl (Nat.le_of_ble_eq_true rfl) dX2_depthIn_32) (fun r78 v79 H locs hI hp77 => ?_)
    rw [el_lt (by omega) (by decide)] at hp77
    subst hp77
    refine tI xB ?_
    refine lv_iadd hx hy dX2_depthIn_35 ?_
    refine tI (nI_add (1) (dp f (f j).2.2.1)) ?_
    refine zm_max F hl M_X2_54 ⟨Nat.le_of_ble_eq_true rfl, Nat.le_of_ble_eq_true rfl⟩ ⟨Nat.zero_le _, Nat.zero_le _⟩ dX2_depthIn_36 ?_
    refine tI (mx_nI (a := max (0) (1 + dp f (f j).2.1)) (b := 1 + dp f (f j).2.2.1) (by omega) (by omega)) ?_
    refine lv_istore_n (lv' := [(3, .int (nI (max (max (0) (1 + dp f (f j).2.1)) (1 + dp f (f j).2.2.1)))), (5, .int (nI 2)), (4, .int (nI 3)), (0, .ref (eA E 5)), (1, .ref (eA E (10 + 3 * b))), (2, .int (nI j))]) hx hy dX2_depthIn_39 rfl hl (by decide) rfl (fun ls hl => ?_)
    refine lv_iinc (v := nI 3) (lv' := [(5, .int (nI 3)), (3, .int (nI (max (max (0) (1 + dp f (f j).2.1)) (1 + dp f (f j).2.2.1)))), (4, .int (nI 3)), (0, .ref (eA E 5)), (1, .ref (eA E (10 + 3 * b))), (2, .int (nI j))]) hx hy dX2_depthIn_40 hl (k := 1) rfl rfl (by decide) rfl (fun ls hl => ?_)
    refine lv_goto (tgt := 15) hx hy dX2_depthIn_43 (by decide) ?_
    refine lv_iload hx hy dX2_depthIn_15 (lv_at hl 0 rfl) ?_
    refine lv_iload hx hy dX2_depthIn_17 (lv_at hl 2 rfl) ?_
    refine lv_icmp_gt (tgt := 46) hx hy dX2_depthIn_19 (by decide) (fun q => absurd q (by decide)) (fun _ => ?_)
    refine lv_iload_n hx hy dX2_depthIn_22 rfl (lv_at hl 1 rfl) ?_
    refine lv_iconst (v := nI 1) hx hy dX2_depthIn_23 (by decide) ?_
    refine lv_aload_n hx hy dX2_depthIn_24 rfl (lv_at hl 3 rfl) ?_
    refine lv_aload_n hx hy dX2_depthIn_25 rfl (lv_at hl 4 rfl) ?_
    refine lv_iload_n hx hy dX2_depthIn_26 rfl (lv_at hl 5 rfl) ?_
    refine lv_iload hx hy dX2_depthIn_27 (lv_at hl 0 rfl) ?_
    refine zI hI (xV F hI hl (kX0_numberOf l E (u) (b := b) hb (nI j) (nI 3)) M_X2_60 (rX0 F hI (b := b) hb) rfl ⟨Nat.le_of_ble_eq_true rfl, Nat.le_of_ble_eq_true rfl⟩ ⟨Nat.zero_le _, Nat.zero_le _⟩ rfl (Nat.le_of_ble_eq_true rfl) dX2_depthIn_29) (fun r81 v82 H locs hI hp80 => ?_)
    rw [show nI j * nI 3 + nI 3 - nI 1 = nI (3 * j + 2) from ix3 j 2, el_lt (by omega) (by decide)] at hp80
    subst hp80
    refine tI (hR.2 j hj).2.2.2 ?_
    refine zI hI (xV F hI hl (kX2_depthOf l E (u) (nI ((f j).2.2.2))) M_X2_51 (rX2 F hI) rfl ⟨Nat.le_of_ble_eq_true rfl, Nat.le_of_ble_eq_true rfl⟩ ⟨Nat.zero_le _, Nat.zero_le _⟩ rfl (Nat.le_of_ble_eq_true rfl) dX2_depthIn_32) (fun r84 v85 H locs hI hp83 => ?_)
    rw [el_lt (by omega) (by decide)] at hp83
    subst hp83
    refine tI xC ?_
    refine lv_iadd hx hy dX2_depthIn_35 ?_
    refine tI (nI_add (1) (dp f (f j).2.2.2)) ?_
    refine zm_max F hl M_X2_54 ⟨Nat.le_of_ble_eq_true rfl, Nat.le_of_ble_eq_true rfl⟩ ⟨Nat.zero_le _, Nat.zero_le _⟩ dX2_depthIn_36 ?_
    refine tI (mx_nI (a := max (max (0) (1 + dp f (f j).2.1)) (1 + dp f (f j).2.2.1)) (b := 1 + dp f (f j).2.2.2) (by omega) (by omega)) ?_
    refine lv_istore_n (lv' := [(3, .int (nI (max (max (max (0) (1 + dp f (f j).2.1)) (1 + dp f (f j).2.2.1)) (1 + dp f (f j).2.2.2)))), (5, .int (nI 3)), (4, .int (nI 3)), (0, .ref (eA E 5)), (1, .ref (eA E (10 + 3 * b))), (2, .int (nI j))]) hx hy dX2_depthIn_39 rfl hl (by decide) rfl (fun ls hl => ?_)
    refine lv_iinc (v := nI 4) (lv' := [(5, .int (nI 4)), (3, .int (nI (max (max (max (0) (1 + dp f (f j).2.1)) (1 + dp f (f j).2.2.1)) (1 + dp f (f j).2.2.2)))), (4, .int (nI 3)), (0, .ref (eA E 5)), (1, .ref (eA E (10 + 3 * b))), (2, .int (nI j))]) hx hy dX2_depthIn_40 hl (k := 1) rfl rfl (by decide) rfl (fun ls hl => ?_)
    refine lv_goto (tgt := 15) hx hy dX2_depthIn_43 (by decide) ?_
    refine lv_iload hx hy dX2_depthIn_15 (lv_at hl 0 rfl) ?_
    refine lv_iload hx hy dX2_depthIn_17 (lv_at hl 2 rfl) ?_
    refine lv_icmp_gt (tgt := 46) hx hy dX2_depthIn_19 (by decide) (fun _ => ?_) (fun q => absurd q (by decide))
    refine lv_iload_n hx hy dX2_depthIn_46 rfl (lv_at hl 1 rfl) ?_
    exact rI hQ F (v := ()) hI dX2_depthIn_47 (by rw [dp_eq hok]; simp [dpS, hk1])
  · have hA := hok.2.2.1 (by omega)
    have xA := hX (f j).2.1 hA
    have lA := hL (f j).2.1 hA
    refine lv_iconst (v := nI 0) hx hy dX2_depthIn_0 (by decide) ?_
    refine lv_istore_n (lv' := [(3, .int (nI 0)), (0, .ref (eA E 5)), (1, .ref (eA E (10 + 3 * b))), (2, .int (nI j))]) hx hy dX2_depthIn_1 rfl hl (by decide) rfl (fun ls hl => ?_)
    refine lv_aload_n hx hy dX2_depthIn_2 rfl (lv_at hl 2 rfl) ?_
    refine lv_iload_n hx hy dX2_depthIn_3 rfl (lv_at hl 3 rfl) ?_
    refine zI hI (xV F hI hl (kX0_kindOf l E (u) (b := b) hb (nI j)) M_X2_66 (rX0 F hI (b := b) hb) rfl ⟨Nat.le_of_ble_eq_true rfl, Nat.le_of_ble_eq_true rfl⟩ ⟨Nat.zero_le _, Nat.zero_le _⟩ rfl (Nat.le_of_ble_eq_true rfl) dX2_depthIn_4) (fun r87 v88 H locs hI hp86 => ?_)
    rw [el_lt (by omega) (by decide)] at hp86
    subst hp86
    refine tI (show _ = nI 5 by rw [← hk1]; exact (hR.2 j hj).1) ?_
    refine zI hI (xS F hI hl (kX5_linesOfKind l E (u) 5 (by omega)) M_X2_80 rfl ⟨Nat.le_of_ble_eq_true rfl, Nat.le_of_ble_eq_true rfl⟩ ⟨Nat.zero_le _, Nat.zero_le _⟩ rfl (Nat.le_of_ble_eq_true rfl) dX2_depthIn_7) (fun r90 v91 H locs hI hp89 => ?_)
    subst hp89
    refine tI (show _ = nI 1 from rfl) ?_
    refine lv_istore (lv' := [(4, .int (nI 1)), (3, .int (nI 0)), (0, .ref (eA E 5)), (1, .ref (eA E (10 + 3 * b))), (2, .int (nI j))]) hx hy dX2_depthIn_10 hl (by decide) rfl (fun ls hl => ?_)
    refine lv_iconst (v := nI 1) hx hy dX2_depthIn_12 (by decide) ?_
    refine lv_istore (lv' := [(5, .int (nI 1)), (4, .int (nI 1)), (3, .int (nI 0)), (0, .ref (eA E 5)), (1, .ref (eA E (10 + 3 * b))), (2, .int (nI j))]) hx hy dX2_depthIn_13 hl (by decide) rfl (fun ls hl => ?_)
    refine lv_iload hx hy dX2_depthIn_15 (lv_at hl 0 rfl) ?_
    refine lv_iload hx hy dX2_depthIn_17 (lv_at hl 1 rfl) ?_
    refine lv_icmp_gt (tgt := 46) hx hy dX2_depthIn_19 (by decide) (fun q => absurd q (by decide)) (fun _ => ?_)
    refine lv_iload_n hx hy dX2_depthIn_22 rfl (lv_at hl 2 rfl) ?_
    refine lv_iconst (v := nI 1) hx hy dX2_depthIn_23 (by decide) ?_
    refine lv_aload_n hx hy dX2_depthIn_24 rfl (lv_at hl 3 rfl) ?_
    refine lv_aload_n hx hy dX2_depthIn_25 rfl (lv_at hl 4 rfl) ?_
    refine lv_iload_n hx hy dX2_depthIn_26 rfl (lv_at hl 5 rfl) ?_
    refine lv_iload hx hy dX2_depthIn_27 (lv_at hl 0 rfl) ?_
    refine zI hI (xV F hI hl (kX0_numberOf l E (u) (b := b) hb (nI j) (nI 1)) M_X2_60 (rX0 F hI (b := b) hb) rfl ⟨Nat.le_of_ble_eq_true rfl, Nat.le_of_ble_eq_true rfl⟩ ⟨Nat.zero_le _, Nat.zero_le _⟩ rfl (Nat.le_of_ble_eq_true rfl) dX2_depthIn_29) (fun r93 v94 H locs hI hp92 => ?_)
    rw [show nI j * nI 3 + nI 1 - nI 1 = nI (3 * j) from ix3 j 0, el_lt (by omega) (by decide)] at hp92
    subst hp92
    refine tI (hR.2 j hj).2.1 ?_
    refine zI hI (xV F hI hl (kX2_depthOf l E (u) (nI ((f j).2.1))) M_X2_51 (rX2 F hI) rfl ⟨Nat.le_of_ble_eq_true rfl, Nat.le_of_ble_eq_true rfl⟩ ⟨Nat.zero_le _, Nat.zero_le _⟩ rfl (Nat.le_of_ble_eq_true rfl) dX2_depthIn_32) (fun r96 v97 H locs hI hp95 => ?_)
    rw [el_lt (by omega) (by decide)] at hp95
    subst hp95
    refine tI xA ?_
    refine lv_iadd hx hy dX2_depthIn_35 ?_
    refine tI (nI_add (1) (dp f (f j).2.1)) ?_
    refine zm_max F hl M_X2_54 ⟨Nat.le_of_ble_eq_true rfl, Nat.le_of_ble_eq_true rfl⟩ ⟨Nat.zero_le _, Nat.zero_le _⟩ dX2_depthIn_36 ?_
    refine tI (mx_nI (a := 0) (b := 1 + dp f (f j).2.1) (by omega) (by omega)) ?_
    refine lv_istore_n (lv' := [(3, .int (nI (max (0) (1 + dp f (f j).2.1)))), (5, .int (nI 1)), (4, .int (nI 1)), (0, .ref (eA E 5)), (1, .ref (eA E (10 + 3 * b))), (2, .int (nI j))]) hx hy dX2_depthIn_39 rfl hl (by decide) rfl (fun ls hl => ?_)
    refine lv_iinc (v := nI 2) (lv' := [(5, .int (nI 2)), (3, .int (nI (max (0) (1 + dp f (f j).2.1)))), (4, .int (nI 1)), (0, .ref (eA E 5)), (1, .ref (eA E (10 + 3 * b))), (2, .int (nI j))]) hx hy dX2_depthIn_40 hl (k := 1) rfl rfl (by decide) rfl (fun ls hl => ?_)
    refine lv_goto (tgt := 15) hx hy dX2_depthIn_43 (by decide) ?_
    refine lv_iload hx hy dX2_depthIn_15 (lv_at hl 0 rfl) ?_
    refine lv_iload hx hy dX2_depthIn_17 (lv_at hl 2 rfl) ?_
    refine lv_icmp_gt (tgt := 46) hx hy dX2_depthIn_19 (by decide) (fun _ => ?_) (fun q => absurd q (by decide))
    refine lv_iload_n hx hy dX2_depthIn_46 rfl (lv_at hl 1 rfl) ?_
    exact rI hQ F (v := ()) hI dX2_depthIn_47 (by rw [dp_eq hok]; simp [dpS, hk1])
  · have hA := hok.2.2.1 (by omega)
    have hD := hok.2.2.2.2.2.1 hk1
    have xA := hX (f j).2.1 hA
    have lA := hL (f j).2.1 hA
    refine lv_iconst (v := nI 0) hx hy dX2_depthIn_0 (by decide) ?_
    refine lv_istore_n (lv' := [(3, .int (nI 0)), (0, .ref (eA E 5)), (1, .ref (eA E (10 + 3 * b))), (2, .int (nI j))]) hx hy dX2_depthIn_1 rfl hl (by decide) rfl (fun ls hl => ?_)
    refine lv_aload_n hx hy dX2_depthIn_2 rfl (lv_at hl 2 rfl) ?_
    refine lv_iload_n hx hy dX2_depthIn_3 rfl (lv_at hl 3 rfl) ?_
    refine zI hI (xV F hI hl (kX0_kindOf l E (u) (b := b) hb (nI j)) M_X2_66 (rX0 F hI (b := b) hb) rfl ⟨Nat.le_of_ble_eq_true rfl, Nat.le_of_ble_eq_true rfl⟩ ⟨Nat.zero_le _, Nat.zero_le _⟩ rfl (Nat.le_of_ble_eq_true rfl) dX2_depthIn_4) (fun r99 v100 H locs hI hp98 => ?_)
    rw [el_lt (by omega) (by decide)] at hp98
    subst hp98
    refine tI (show _ = nI 6 by rw [← hk1]; exact (hR.2 j hj).1) ?_
    refine zI hI (xS F hI hl (kX5_linesOfKind l E (u) 6 (by omega)) M_X2_80 rfl ⟨Nat.le_of_ble_eq_true rfl, Nat.le_of_ble_eq_true rfl⟩ ⟨Nat.zero_le _, Nat.zero_le _⟩ rfl (Nat.le_of_ble_eq_true rfl) dX2_depthIn_7) (fun r102 v103 H locs hI hp101 => ?_)
    subst hp101
    refine tI (show _ = nI 1 from rfl) ?_
    refine lv_istore (lv' := [(4, .int (nI 1)), (3, .int (nI 0)), (0, .ref (eA E 5)), (1, .ref (eA E (10 + 3 * b))), (2, .int (nI j))]) hx hy dX2_depthIn_10 hl (by decide) rfl (fun ls hl => ?_)
    refine lv_iconst (v := nI 1) hx hy dX2_depthIn_12 (by decide) ?_
    refine lv_istore (lv' := [(5, .int (nI 1)), (4, .int (nI 1)), (3, .int (nI 0)), (0, .ref (eA E 5)), (1, .ref (eA E (10 + 3 * b))), (2, .int (nI j))]) hx hy dX2_depthIn_13 hl (by decide) rfl (fun ls hl => ?_)
    refine lv_iload hx hy dX2_depthIn_15 (lv_at hl 0 rfl) ?_
    refine lv_iload hx hy dX2_depthIn_17 (lv_at hl 1 rfl) ?_
    refine lv_icmp_gt (tgt := 46) hx hy dX2_depthIn_19 (by decide) (fun q => absurd q (by decide)) (fun _ => ?_)
    refine lv_iload_n hx hy dX2_depthIn_22 rfl (lv_at hl 2 rfl) ?_
    refine lv_iconst (v := nI 1) hx hy dX2_depthIn_23 (by decide) ?_
    refine lv_aload_n hx hy dX2_depthIn_24 rfl (lv_at hl 3 rfl) ?_
    refine lv_aload_n hx hy dX2_depthIn_25 rfl (lv_at hl 4 rfl) ?_
    refine lv_iload_n hx hy dX2_depthIn_26 rfl (lv_at hl 5 rfl) ?_
    refine lv_iload hx hy dX2_depthIn_27 (lv_at hl 0 rfl) ?_
    refine zI hI (xV F hI hl (kX0_numberOf l E (u) (b := b) hb (nI j) (nI 1)) M_X2_60 (rX0 F hI (b := b) hb) rfl ⟨Nat.le_of_ble_eq_true rfl, Nat.le_of_ble_eq_true rfl⟩ ⟨Nat.zero_le _, Nat.zero_le _⟩ rfl (Nat.le_of_ble_eq_true rfl) dX2_depthIn_29) (fun r105 v106 H locs hI hp104 => ?_)
    rw [show nI j * nI 3 + nI 1 - nI 1 = nI (3 * j) from ix3 j 0, el_lt (by omega) (by decide)] at hp104
    subst hp104
    refine tI (hR.2 j hj).2.1 ?_
    refine zI hI (xV F hI hl (kX2_depthOf l E (u) (nI ((f j).2.1))) M_X2_51 (rX2 F hI) rfl ⟨Nat.le_of_ble_eq_true rfl, Nat.le_of_ble_eq_true rfl⟩ ⟨Nat.zero_le _, Nat.zero_le _⟩ rfl (Nat.le_of_ble_eq_true rfl) dX2_depthIn_32) (fun r108 v109 H locs hI hp107 => ?_)
    rw [el_lt (by omega) (by decide)] at hp107
    subst hp107
    refine tI xA ?_
    refine lv_iadd hx hy dX2_depthIn_35 ?_
    refine tI (nI_add (1) (dp f (f j).2.1)) ?_
    refine zm_max F hl M_X2_54 ⟨Nat.le_of_ble_eq_true rfl, Nat.le_of_ble_eq_true rfl⟩ ⟨Nat.zero_le _, Nat.zero_le _⟩ dX2_depthIn_36 ?_
    refine tI (mx_nI (a := 0) (b := 1 + dp f (f j).2.1) (by omega) (by omega)) ?_
    refine lv_istore_n (lv' := [(3, .int (nI (max (0) (1 + dp f (f j).2.1)))), (5, .int (nI 1)), (4, .int (nI 1)), (0, .ref (eA E 5)), (1, .ref (eA E (10 + 3 * b))), (2, .int (nI j))]) hx hy dX2_depthIn_39 rfl hl (by decide) rfl (fun ls hl => ?_)
    refine lv_iinc (v := nI 2) (lv' := [(5, .int (nI 2)), (3, .int (nI (max (0) (1 + dp f (f j).2.1)))), (4, .int (nI 1)), (0, .ref (eA E 5)), (1, .ref (eA E (10 + 3 * b))), (2, .int (nI j))]) hx hy dX2_depthIn_40 hl (k := 1) rfl rfl (by decide) rfl (fun ls hl => ?_)
    refine lv_goto (tgt := 15) hx hy dX2_depthIn_43 (by decide) ?_
    refine lv_iload hx hy dX2_depthIn_15 (lv_at hl 0 rfl) ?_
    refine lv_iload hx hy dX2_depthIn_17 (lv_at hl 2 rfl) ?_
    refine lv_icmp_gt (tgt := 46) hx hy dX2_depthIn_19 (by decide) (fun _ => ?_) (fun q => absurd q (by decide))
    refine lv_iload_n hx hy dX2_depthIn_46 rfl (lv_at hl 1 rfl) ?_
    exact rI hQ F (v := ()) hI dX2_depthIn_47 (by rw [dp_eq hok]; simp [dpS, hk1])
set_option maxHeartbeats 400000 in
set_option maxRecDepth 100000 in
theorem kX2_originsIn (l : Launch) (E : EV) (u : SS) {b n : Nat} {f : Nat → Ln} (hb : b < 7) (hR : RepL b u.1 n f) (h16 : n ≤ 16) (j : Nat) (hj : j < n) (hok : LnOk j (f j)) (hX : ∀ i, i < j → u.1 5 i = nI (og f i)) (hL : ∀ i, i < j → og f i < 2 ^ 16) : CT l yX2_originsIn cX2_originsIn 6 (some .int) (Rm 2 43) [.ref (eA E 5), .ref (eA E (10 + 3 * b)), .int (nI j)] E u (Q_i E (fun r _ => r = nI (og f j)) (fun (_ : Unit) => u)) := by
  refine mstart RX2 (by decide +kernel) rfl (Nat.le_of_ble_eq_true rfl) ?_
  intro p e s m args below meth co ls Q hQ F hI hl
  have hx := F.1
  have hy := F.2.1
  have hl : lv_has ls 6 [(0, .ref (eA E 5)), (1, .ref (eA E (10 + 3 * b))), (2, .int (nI j))] := hl
  have hk6 := hok.1
  rcases (show (f j).1 = 0 ∨ (f j).1 = 1 ∨ (f j).1 = 2 ∨ (f j).1 = 3 ∨ (f j).1 = 4 ∨ (f j).1 = 5 ∨ (f j).1 = 6 by omega) with hk1 | hk1 | hk1 | hk1 | hk1 | hk1 | hk1
  · refine lv_aload_n hx hy dX2_originsIn_0 rfl (lv_at hl 1 rfl) ?_
    refine lv_iload_n hx hy dX2_originsIn_1 rfl (lv_at hl 2 rfl) ?_
    refine zI hI (xV F hI hl (kX0_kindOf l E (u) (b := b) hb (nI j)) M_X2_66 (rX0 F hI (b := b) hb) rfl ⟨Nat.le_of_ble_eq_true rfl, Nat.le_of_ble_eq_true rfl⟩ ⟨Nat.zero_le _, Nat.zero_le _⟩ rfl (Nat.le_of_ble_eq_true rfl) dX2_originsIn_2) (fun r3 v4 H locs hI hp2 => ?_)
    rw [el_lt (by omega) (by decide)] at hp2
    subst hp2
    refine tI (show _ = nI 0 by rw [← hk1]; exact (hR.2 j hj).1) ?_
    refine lv_if_ne (tgt := 12) hx hy dX2_originsIn_5 (by decide) (fun q => absurd q (by decide)) (fun _ => ?_)
    refine lv_iconst (v := nI 1) hx hy dX2_originsIn_8 (by decide) ?_
    refine lv_iload_n hx hy dX2_originsIn_9 rfl (lv_at hl 2 rfl) ?_
    refine lv_ishl hx hy dX2_originsIn_10 ?_
    refine tI (shl_pow j (by omega)) ?_
    exact rI hQ F (v := ()) hI dX2_originsIn_11 (by rw [og_eq hok]; simp [ogS, hk1])
  · have hA := hok.2.2.1 (by omega)
    have hB := hok.2.2.2.1 (by omega) (by omega)
    have xA := hX (f j).2.1 hA
    have lA := hL (f j).2.1 hA
    have xB := hX (f j).2.2.1 hB
    have lB := hL (f j).2.2.1 hB
    refine lv_aload_n hx hy dX2_originsIn_0 rfl (lv_at hl 1 rfl) ?_
    refine lv_iload_n hx hy dX2_originsIn_1 rfl (lv_at hl 2 rfl) ?_
    refine zI hI (xV F hI hl (kX0_kindOf l E (u) (b := b) hb (nI j)) M_X2_66 (rX0 F hI (b := b) hb) rfl ⟨Nat.le_of_ble_eq_true rfl, Nat.le_of_ble_eq_true rfl⟩ ⟨Nat.zero_le _, Nat.zero_le _⟩ rfl (Nat.le_of_ble_eq_true rfl) dX2_originsIn_2) (fun r6 v7 H locs hI hp5 => ?_)
    rw [el_lt (by omega) (by decide)] at hp5
    subst hp5
    refine tI (show _ = nI 1 by rw [← hk1]; exact (hR.2 j hj).1) ?_
    refine lv_if_ne (tgt := 12) hx hy dX2_originsIn_5 (by decide) (fun _ => ?_) (fun q => absurd q (by decide))
    refine lv_iconst (v := nI 0) hx hy dX2_originsIn_12 (by decide) ?_
    refine lv_istore_n (lv' := [(3, .int (nI 0)), (0, .ref (eA E 5)), (1, .ref (eA E (10 + 3 * b))), (2, .int (nI j))]) hx hy dX2_originsIn_13 rfl hl (by decide) rfl (fun ls hl => ?_)
    refine lv_aload_n hx hy dX2_originsIn_14 rfl (lv_at hl 2 rfl) ?_
    refine lv_iload_n hx hy dX2_originsIn_15 rfl (lv_at hl 3 rfl) ?_
    refine zI hI (xV F hI hl (kX0_kindOf l E (u) (b := b) hb (nI j)) M_X2_66 (rX0 F hI (b := b) hb) rfl ⟨Nat.le_of_ble_eq_true rfl, Nat.le_of_ble_eq_true rfl⟩ ⟨Nat.zero_le _, Nat.zero_le _⟩ rfl (Nat.le_of_ble_eq_true rfl) dX2_originsIn_16) (fun r9 v10 H locs hI hp8 => ?_)
    rw [el_lt (by omega) (by decide)] at hp8
    subst hp8
    refine tI (show _ = nI 1 by rw [← hk1]; exact (hR.2 j hj).1) ?_
    refine zI hI (xS F hI hl (kX5_linesOfKind l E (u) 1 (by omega)) M_X2_80 rfl ⟨Nat.le_of_ble_eq_true rfl, Nat.le_of_ble_eq_true rfl⟩ ⟨Nat.zero_le _, Nat.zero_le _⟩ rfl (Nat.le_of_ble_eq_true rfl) dX2_originsIn_19) (fun r12 v13 H locs hI hp11 => ?_)
    subst hp11
    refine tI (show _ = nI 2 from rfl) ?_
    refine lv_istore (lv' := [(4, .int (nI 2)), (3, .int (nI 0)), (0, .ref (eA E 5)), (1, .ref (eA E (10 + 3 * b))), (2, .int (nI j))]) hx hy dX2_originsIn_22 hl (by decide) rfl (fun ls hl => ?_)
    refine lv_iconst (v := nI 1) hx hy dX2_originsIn_24 (by decide) ?_
    refine lv_istore (lv' := [(5, .int (nI 1)), (4, .int (nI 2)), (3, .int (nI 0)), (0, .ref (eA E 5)), (1, .ref (eA E (10 + 3 * b))), (2, .int (nI j))]) hx hy dX2_originsIn_25 hl (by decide) rfl (fun ls hl => ?_)
    refine lv_iload hx hy dX2_originsIn_27 (lv_at hl 0 rfl) ?_
    refine lv_iload hx hy dX2_originsIn_29 (lv_at hl 1 rfl) ?_
    refine lv_icmp_gt (tgt := 57) hx hy dX2_originsIn_31 (by decide) (fun q => absurd q (by decide)) (fun _ => ?_)
    refine lv_iload_n hx hy dX2_originsIn_34 rfl (lv_at hl 2 rfl) ?_
    refine lv_aload_n hx hy dX2_originsIn_35 rfl (lv_at hl 3 rfl) ?_
    refine gX2_origins F hI L_X2_18 dX2_originsIn_36 ?_
    refine lv_aload_n hx hy dX2_originsIn_39 rfl (lv_at hl 4 rfl) ?_
    refine lv_iload_n hx hy dX2_originsIn_40 rfl (lv_at hl 5 rfl) ?_
    refine lv_iload hx hy dX2_originsIn_41 (lv_at hl 0 rfl) ?_
    refine zI hI (xV F hI hl (kX0_numberOf l E (u) (b := b) hb (nI j) (nI 1)) M_X2_60 (rX0 F hI (b := b) hb) rfl ⟨Nat.le_of_ble_eq_true rfl, Nat.le_of_ble_eq_true rfl⟩ ⟨Nat.zero_le _, Nat.zero_le _⟩ rfl (Nat.le_of_ble_eq_true rfl) dX2_originsIn_43) (fun r15 v16 H locs hI hp14 => ?_)
    rw [show nI j * nI 3 + nI 1 - nI 1 = nI (3 * j) from ix3 j 0, el_lt (by omega) (by decide)] at hp14
    subst hp14
    refine tI (hR.2 j hj).2.1 ?_
    refine zI hI (xS F hI hl (kX5_elementAt l E (u) iX2_origins (by decide) (nI ((f j).2.1))) M_X2_41 rfl ⟨Nat.le_of_ble_eq_true rfl, Nat.le_of_ble_eq_true rfl⟩ ⟨Nat.zero_le _, Nat.zero_le _⟩ rfl (Nat.le_of_ble_eq_true rfl) dX2_originsIn_46) (fun r18 v19 H locs hI hp17 => ?_)
    rw [el_lt (by omega) (by decide)] at hp17
    subst hp17
    refine tI xA ?_
    refine lv_ior hx hy dX2_originsIn_49 ?_
    refine tI (nI_or (0) (og f (f j).2.1)) ?_
    refine lv_istore_n (lv' := [(3, .int (nI (0 ||| (og f (f j).2.1)))), (5, .int (nI 1)), (4, .int (nI 2)), (0, .ref (eA E 5)), (1, .ref (eA E (10 + 3 * b))), (2, .int (nI j))]) hx hy dX2_originsIn_50 rfl hl (by decide) rfl (fun ls hl => ?_)
    refine lv_iinc (v := nI 2) (lv' := [(5, .int (nI 2)), (3, .int (nI (0 ||| (og f (f j).2.1)))), (4, .int (nI 2)), (0, .ref (eA E 5)), (1, .ref (eA E (10 + 3 * b))), (2, .int (nI j))]) hx hy dX2_originsIn_51 hl (k := 1) rfl rfl (by decide) rfl (fun ls hl => ?_)
    refine lv_goto (tgt := 27) hx hy dX2_originsIn_54 (by decide) ?_
    refine lv_iload hx hy dX2_originsIn_27 (lv_at hl 0 rfl) ?_
    refine lv_iload hx hy dX2_originsIn_29 (lv_at hl 2 rfl) ?_
    refine lv_icmp_gt (tgt := 57) hx hy dX2_originsIn_31 (by decide) (fun q => absurd q (by decide)) (fun _ => ?_)
    refine lv_iload_n hx hy dX2_originsIn_34 rfl (lv_at hl 1 rfl) ?_
    refine lv_aload_n hx hy dX2_originsIn_35 rfl (lv_at hl 3 rfl) ?_
    refine gX2_origins F hI L_X2_18 dX2_originsIn_36 ?_
    refine lv_aload_n hx hy dX2_originsIn_39 rfl (lv_at hl 4 rfl) ?_
    refine lv_iload_n hx hy dX2_originsIn_40 rfl (lv_at hl 5 rfl) ?_
    refine lv_iload hx hy dX2_originsIn_41 (lv_at hl 0 rfl) ?_
    refine zI hI (xV F hI hl (kX0_numberOf l E (u) (b := b) hb (nI j) (nI 2)) M_X2_60 (rX0 F hI (b := b) hb) rfl ⟨Nat.le_of_ble_eq_true rfl, Nat.le_of_ble_eq_true rfl⟩ ⟨Nat.zero_le _, Nat.zero_le _⟩ rfl (Nat.le_of_ble_eq_true rfl) dX2_originsIn_43) (fun r21 v22 H locs hI hp20 => ?_)
    rw [show nI j * nI 3 + nI 2 - nI 1 = nI (3 * j + 1) from ix3 j 1, el_lt (by omega) (by decide)] at hp20
    subst hp20
    refine tI (hR.2 j hj).2.2.1 ?_
    refine zI hI (xS F hI hl (kX5_elementAt l E (u) iX2_origins (by decide) (nI ((f j).2.2.1))) M_X2_41 rfl ⟨Nat.le_of_ble_eq_true rfl, Nat.le_of_ble_eq_true rfl⟩ ⟨Nat.zero_le _, Nat.zero_le _⟩ rfl (Nat.le_of_ble_eq_true rfl) dX2_originsIn_46) (fun r24 v25 H locs hI hp23 => ?_)
    rw [el_lt (by omega) (by decide)] at hp23
    subst hp23
    refine tI xB ?_
    refine lv_ior hx hy dX2_originsIn_49 ?_
    refine tI (nI_or (0 ||| (og f (f j).2.1)) (og f (f j).2.2.1)) ?_
    refine lv_istore_n (lv' := [(3, .int (nI ((0 ||| (og f (f j).2.1)) ||| (og f (f j).2.2.1)))), (5, .int (nI 2)), (4, .int (nI 2)), (0, .ref (eA E 5)), (1, .ref (eA E (10 + 3 * b))), (2, .int (nI j))]) hx hy dX2_originsIn_50 rfl hl (by decide) rfl (fun ls hl => ?_)
    refine lv_iinc (v := nI 3) (lv' := [(5, .int (nI 3)), (3, .int (nI ((0 ||| (og f (f j).2.1)) ||| (og f (f j).2.2.1)))), (4, .int (nI 2)), (0, .ref (eA E 5)), (1, .ref (eA E (10 + 3 * b))), (2, .int (nI j))]) hx hy dX2_originsIn_51 hl (k := 1) rfl rfl (by decide) rfl (fun ls hl => ?_)
    refine lv_goto (tgt := 27) hx hy dX2_originsIn_54 (by decide) ?_
    refine lv_iload hx hy dX2_originsIn_27 (lv_at hl 0 rfl) ?_
    refine lv_iload hx hy dX2_originsIn_29 (lv_at hl 2 rfl) ?_
    refine lv_icmp_gt (tgt := 57) hx hy dX2_originsIn_31 (by decide) (fun _ => ?_) (fun q => absurd q (by decide))
    refine lv_iload_n hx hy dX2_originsIn_57 rfl (lv_at hl 1 rfl) ?_
    exact rI hQ F (v := ()) hI dX2_originsIn_58 (by rw [og_eq hok]; simp [ogS, hk1])
  · have hA := hok.2.2.1 (by omega)
    have hB := hok.2.2.2.1 (by omega) (by omega)
    have xA := hX (f j).2.1 hA
    have lA := hL (f j).2.1 hA
    have xB := hX (f j).2.2.1 hB
    have lB := hL (f j).2.2.1 hB
    refine lv_aload_n hx hy dX2_originsIn_0 rfl (lv_at hl 1 rfl) ?_
    refine lv_iload_n hx hy dX2_originsIn_1 rfl (lv_at hl 2 rfl) ?_
    refine zI hI (xV F hI hl (kX0_kindOf l E (u) (b := b) hb (nI j)) M_X2_66 (rX0 F hI (b := b) hb) rfl ⟨Nat.le_of_ble_eq_true rfl, Nat.le_of_ble_eq_true rfl⟩ ⟨Nat.zero_le _, Nat.zero_le _⟩ rfl (Nat.le_of_ble_eq_true rfl) dX2_originsIn_2) (fun r27 v28 H locs hI hp26 => ?_)
    rw [el_lt (by omega) (by decide)] at hp26
    subst hp26
    refine tI (show _ = nI 2 by rw [← hk1]; exact (hR.2 j hj).1) ?_
    refine lv_if_ne (tgt := 12) hx hy dX2_originsIn_5 (by decide) (fun _ => ?_) (fun q => absurd q (by decide))
    refine lv_iconst (v := nI 0) hx hy dX2_originsIn_12 (by decide) ?_
    refine lv_istore_n (lv' := [(3, .int (nI 0)), (0, .ref (eA E 5)), (1, .ref (eA E (10 + 3 * b))), (2, .int (nI j))]) hx hy dX2_originsIn_13 rfl hl (by decide) rfl (fun ls hl => ?_)
    refine lv_aload_n hx hy dX2_originsIn_14 rfl (lv_at hl 2 rfl) ?_
    refine lv_iload_n hx hy dX2_originsIn_15 rfl (lv_at hl 3 rfl) ?_
    refine zI hI (xV F hI hl (kX0_kindOf l E (u) (b := b) hb (nI j)) M_X2_66 (rX0 F hI (b := b) hb) rfl ⟨Nat.le_of_ble_eq_true rfl, Nat.le_of_ble_eq_true rfl⟩ ⟨Nat.zero_le _, Nat.zero_le _⟩ rfl (Nat.le_of_ble_eq_true rfl) dX2_originsIn_16) (fun r30 v31 H locs hI hp29 => ?_)
    rw [el_lt (by omega) (by decide)] at hp29
    subst hp29
    refine tI (show _ = nI 2 by rw [← hk1]; exact (hR.2 j hj).1) ?_
    refine zI hI (xS F hI hl (kX5_linesOfKind l E (u) 2 (by omega)) M_X2_80 rfl ⟨Nat.le_of_ble_eq_true rfl, Nat.le_of_ble_eq_true rfl⟩ ⟨Nat.zero_le _, Nat.zero_le _⟩ rfl (Nat.le_of_ble_eq_true rfl) dX2_originsIn_19) (fun r33 v34 H locs hI hp32 => ?_)
    subst hp32
    refine tI (show _ = nI 2 from rfl) ?_
    refine lv_istore (lv' := [(4, .int (nI 2)), (3, .int (nI 0)), (0, .ref (eA E 5)), (1, .ref (eA E (10 + 3 * b))), (2, .int (nI j))]) hx hy dX2_originsIn_22 hl (by decide) rfl (fun ls hl => ?_)
    refine lv_iconst (v := nI 1) hx hy dX2_originsIn_24 (by decide) ?_
    refine lv_istore (lv' := [(5, .int (nI 1)), (4, .int (nI 2)), (3, .int (nI 0)), (0, .ref (eA E 5)), (1, .ref (eA E (10 + 3 * b))), (2, .int (nI j))]) hx hy dX2_originsIn_25 hl (by decide) rfl (fun ls hl => ?_)
    refine lv_iload hx hy dX2_originsIn_27 (lv_at hl 0 rfl) ?_
    refine lv_iload hx hy dX2_originsIn_29 (lv_at hl 1 rfl) ?_
    refine lv_icmp_gt (tgt := 57) hx hy dX2_originsIn_31 (by decide) (fun q => absurd q (by decide)) (fun _ => ?_)
    refine lv_iload_n hx hy dX2_originsIn_34 rfl (lv_at hl 2 rfl) ?_
    refine lv_aload_n hx hy dX2_originsIn_35 rfl (lv_at hl 3 rfl) ?_
    refine gX2_origins F hI L_X2_18 dX2_originsIn_36 ?_
    refine lv_aload_n hx hy dX2_originsIn_39 rfl (lv_at hl 4 rfl) ?_
    refine lv_iload_n hx hy dX2_originsIn_40 rfl (lv_at hl 5 rfl) ?_
    refine lv_iload hx hy dX2_originsIn_41 (lv_at hl 0 rfl) ?_
    refine zI hI (xV F hI hl (kX0_numberOf l E (u) (b := b) hb (nI j) (nI 1)) M_X2_60 (rX0 F hI (b := b) hb) rfl ⟨Nat.le_of_ble_eq_true rfl, Nat.le_of_ble_eq_true rfl⟩ ⟨Nat.zero_le _, Nat.zero_le _⟩ rfl (Nat.le_of_ble_eq_true rfl) dX2_originsIn_43) (fun r36 v37 H locs hI hp35 => ?_)
    rw [show nI j * nI 3 + nI 1 - nI 1 = nI (3 * j) from ix3 j 0, el_lt (by omega) (by decide)] at hp35
    subst hp35
    refine tI (hR.2 j hj).2.1 ?_
    refine zI hI (xS F hI hl (kX5_elementAt l E (u) iX2_origins (by decide) (nI ((f j).2.1))) M_X2_41 rfl ⟨Nat.le_of_ble_eq_true rfl, Nat.le_of_ble_eq_true rfl⟩ ⟨Nat.zero_le _, Nat.zero_le _⟩ rfl (Nat.le_of_ble_eq_true rfl) dX2_originsIn_46) (fun r39 v40 H locs hI hp38 => ?_)
    rw [el_lt (by omega) (by decide)] at hp38
    subst hp38
    refine tI xA ?_
    refine lv_ior hx hy dX2_originsIn_49 ?_
    refine tI (nI_or (0) (og f (f j).2.1)) ?_
    refine lv_istore_n (lv' := [(3, .int (nI (0 ||| (og f (f j).2.1)))), (5, .int (nI 1)), (4, .int (nI 2)), (0, .ref (eA E 5)), (1, .ref (eA E (10 + 3 * b))), (2, .int (nI j))]) hx hy dX2_originsIn_50 rfl hl (by decide) rfl (fun ls hl => ?_)
    refine lv_iinc (v := nI 2) (lv' := [(5, .int (nI 2)), (3, .int (nI (0 ||| (og f (f j).2.1)))), (4, .int (nI 2)), (0, .ref (eA E 5)), (1, .ref (eA E (10 + 3 * b))), (2, .int (nI j))]) hx hy dX2_originsIn_51 hl (k := 1) rfl rfl (by decide) rfl (fun ls hl => ?_)
    refine lv_goto (tgt := 27) hx hy dX2_originsIn_54 (by decide) ?_
    refine lv_iload hx hy dX2_originsIn_27 (lv_at hl 0 rfl) ?_
    refine lv_iload hx hy dX2_originsIn_29 (lv_at hl 2 rfl) ?_
    refine lv_icmp_gt (tgt := 57) hx hy dX2_originsIn_31 (by decide) (fun q => absurd q (by decide)) (fun _ => ?_)
    refine lv_iload_n hx hy dX2_originsIn_34 rfl (lv_at hl 1 rfl) ?_
    refine lv_aload_n hx hy dX2_originsIn_35 rfl (lv_at hl 3 rfl) ?_
    refine gX2_origins F hI L_X2_18 dX2_originsIn_36 ?_
    refine lv_aload_n hx hy dX2_originsIn_39 rfl (lv_at hl 4 rfl) ?_
    refine lv_iload_n hx hy dX2_originsIn_40 rfl (lv_at hl 5 rfl) ?_
    refine lv_iload hx hy dX2_originsIn_41 (lv_at hl 0 rfl) ?_
    refine zI hI (xV F hI hl (kX0_numberOf l E (u) (b := b) hb (nI j) (nI 2)) M_X2_60 (rX0 F hI (b := b) hb) rfl ⟨Nat.le_of_ble_eq_true rfl, Nat.le_of_ble_eq_true rfl⟩ ⟨Nat.zero_le _, Nat.zero_le _⟩ rfl (Nat.le_of_ble_eq_true rfl) dX2_originsIn_43) (fun r42 v43 H locs hI hp41 => ?_)
    rw [show nI j * nI 3 + nI 2 - nI 1 = nI (3 * j + 1) from ix3 j 1, el_lt (by omega) (by decide)] at hp41
    subst hp41
    refine tI (hR.2 j hj).2.2.1 ?_
    refine zI hI (xS F hI hl (kX5_elementAt l E (u) iX2_origins (by decide) (nI ((f j).2.2.1))) M_X2_41 rfl ⟨Nat.le_of_ble_eq_true rfl, Nat.le_of_ble_eq_true rfl⟩ ⟨Nat.zero_le _, Nat.zero_le _⟩ rfl (Nat.le_of_ble_eq_true rfl) dX2_originsIn_46) (fun r45 v46 H locs hI hp44 => ?_)
    rw [el_lt (by omega) (by decide)] at hp44
    subst hp44
    refine tI xB ?_
    refine lv_ior hx hy dX2_originsIn_49 ?_
    refine tI (nI_or (0 ||| (og f (f j).2.1)) (og f (f j).2.2.1)) ?_
    refine lv_istore_n (lv' := [(3, .int (nI ((0 ||| (og f (f j).2.1)) ||| (og f (f j).2.2.1)))), (5, .int (nI 2)), (4, .int (nI 2)), (0, .ref (eA E 5)), (1, .ref (eA E (10 + 3 * b))), (2, .int (nI j))]) hx hy dX2_originsIn_50 rfl hl (by decide) rfl (fun ls hl => ?_)
    refine lv_iinc (v := nI 3) (lv' := [(5, .int (nI 3)), (3, .int (nI ((0 ||| (og f (f j).2.1)) ||| (og f (f j).2.2.1)))), (4, .int (nI 2)), (0, .ref (eA E 5)), (1, .ref (eA E (10 + 3 * b))), (2, .int (nI j))]) hx hy dX2_originsIn_51 hl (k := 1) rfl rfl (by decide) rfl (fun ls hl => ?_)
    refine lv_goto (tgt := 27) hx hy dX2_originsIn_54 (by decide) ?_
    refine lv_iload hx hy dX2_originsIn_27 (lv_at hl 0 rfl) ?_
    refine lv_iload hx hy dX2_originsIn_29 (lv_at hl 2 rfl) ?_
    refine lv_icmp_gt (tgt := 57) hx hy dX2_originsIn_31 (by decide) (fun _ => ?_) (fun q => absurd q (by decide))
    refine lv_iload_n hx hy dX2_originsIn_57 rfl (lv_at hl 1 rfl) ?_
    exact rI hQ F (v := ()) hI dX2_originsIn_58 (by rw [og_eq hok]; simp [ogS, hk1])
  · have hA := hok.2.2.1 (by omega)
    have hB := hok.2.2.2.1 (by omega) (by omega)
    have xA := hX (f j).2.1 hA
    have lA := hL (f j).2.1 hA
    have xB := hX (f j).2.2.1 hB
    have lB := hL (f j).2.2.1 hB
    refine lv_aload_n hx hy dX2_originsIn_0 rfl (lv_at hl 1 rfl) ?_
    refine lv_iload_n hx hy dX2_originsIn_1 rfl (lv_at hl 2 rfl) ?_
    refine zI hI (xV F hI hl (kX0_kindOf l E (u) (b := b) hb (nI j)) M_X2_66 (rX0 F hI (b := b) hb) rfl ⟨Nat.le_of_ble_eq_true rfl, Nat.le_of_ble_eq_true rfl⟩ ⟨Nat.zero_le _, Nat.zero_le _⟩ rfl (Nat.le_of_ble_eq_true rfl) dX2_originsIn_2) (fun r48 v49 H locs hI hp47 => ?_)
    rw [el_lt (by omega) (by decide)] at hp47
    subst hp47
    refine tI (show _ = nI 3 by rw [← hk1]; exact (hR.2 j hj).1) ?_
    refine lv_if_ne (tgt := 12) hx hy dX2_originsIn_5 (by decide) (fun _ => ?_) (fun q => absurd q (by decide))
    refine lv_iconst (v := nI 0) hx hy dX2_originsIn_12 (by decide) ?_
    refine lv_istore_n (lv' := [(3, .int (nI 0)), (0, .ref (eA E 5)), (1, .ref (eA E (10 + 3 * b))), (2, .int (nI j))]) hx hy dX2_originsIn_13 rfl hl (by decide) rfl (fun ls hl => ?_)
    refine lv_aload_n hx hy dX2_originsIn_14 rfl (lv_at hl 2 rfl) ?_
    refine lv_iload_n hx hy dX2_originsIn_15 rfl (lv_at hl 3 rfl) ?_
    refine zI hI (xV F hI hl (kX0_kindOf l E (u) (b := b) hb (nI j)) M_X2_66 (rX0 F hI (b := b) hb) rfl ⟨Nat.le_of_ble_eq_true rfl, Nat.le_of_ble_eq_true rfl⟩ ⟨Nat.zero_le _, Nat.zero_le _⟩ rfl (Nat.le_of_ble_eq_true rfl) dX2_originsIn_16) (fun r51 v52 H locs hI hp50 => ?_)
    rw [el_lt (by omega) (by decide)] at hp50
    subst hp50
    refine tI (show _ = nI 3 by rw [← hk1]; exact (hR.2 j hj).1) ?_
    refine zI hI (xS F hI hl (kX5_linesOfKind l E (u) 3 (by omega)) M_X2_80 rfl ⟨Nat.le_of_ble_eq_true rfl, Nat.le_of_ble_eq_true rfl⟩ ⟨Nat.zero_le _, Nat.zero_le _⟩ rfl (Nat.le_of_ble_eq_true rfl) dX2_originsIn_19) (fun r54 v55 H locs hI hp53 => ?_)
    subst hp53
    refine tI (show _ = nI 2 from rfl) ?_
    refine lv_istore (lv' := [(4, .int (nI 2)), (3, .int (nI 0)), (0, .ref (eA E 5)), (1, .ref (eA E (10 + 3 * b))), (2, .int (nI j))]) hx hy dX2_originsIn_22 hl (by decide) rfl (fun ls hl => ?_)
    refine lv_iconst (v := nI 1) hx hy dX2_originsIn_24 (by decide) ?_
    refine lv_istore (lv' := [(5, .int (nI 1)), (4, .int (nI 2)), (3, .int (nI 0)), (0, .ref (eA E 5)), (1, .ref (eA E (10 + 3 * b))), (2, .int (nI j))]) hx hy dX2_originsIn_25 hl (by decide) rfl (fun ls hl => ?_)
    refine lv_iload hx hy dX2_originsIn_27 (lv_at hl 0 rfl) ?_
    refine lv_iload hx hy dX2_originsIn_29 (lv_at hl 1 rfl) ?_
    refine lv_icmp_gt (tgt := 57) hx hy dX2_originsIn_31 (by decide) (fun q => absurd q (by decide)) (fun _ => ?_)
    refine lv_iload_n hx hy dX2_originsIn_34 rfl (lv_at hl 2 rfl) ?_
    refine lv_aload_n hx hy dX2_originsIn_35 rfl (lv_at hl 3 rfl) ?_
    refine gX2_origins F hI L_X2_18 dX2_originsIn_36 ?_
    refine lv_aload_n hx hy dX2_originsIn_39 rfl (lv_at hl 4 rfl) ?_
    refine lv_iload_n hx hy dX2_originsIn_40 rfl (lv_at hl 5 rfl) ?_
    refine lv_iload hx hy dX2_originsIn_41 (lv_at hl 0 rfl) ?_
    refine zI hI (xV F hI hl (kX0_numberOf l E (u) (b := b) hb (nI j) (nI 1)) M_X2_60 (rX0 F hI (b := b) hb) rfl ⟨Nat.le_of_ble_eq_true rfl, Nat.le_of_ble_eq_true rfl⟩ ⟨Nat.zero_le _, Nat.zero_le _⟩ rfl (Nat.le_of_ble_eq_true rfl) dX2_originsIn_43) (fun r57 v58 H locs hI hp56 => ?_)
    rw [show nI j * nI 3 + nI 1 - nI 1 = nI (3 * j) from ix3 j 0, el_lt (by omega) (by decide)] at hp56
    subst hp56
    refine tI (hR.2 j hj).2.1 ?_
    refine zI hI (xS F hI hl (kX5_elementAt l E (u) iX2_origins (by decide) (nI ((f j).2.1))) M_X2_41 rfl ⟨Nat.le_of_ble_eq_true rfl, Nat.le_of_ble_eq_true rfl⟩ ⟨Nat.zero_le _, Nat.zero_le _⟩ rfl (Nat.le_of_ble_eq_true rfl) dX2_originsIn_46) (fun r60 v61 H locs hI hp59 => ?_)
    rw [el_lt (by omega) (by decide)] at hp59
    subst hp59
    refine tI xA ?_
    refine lv_ior hx hy dX2_originsIn_49 ?_
    refine tI (nI_or (0) (og f (f j).2.1)) ?_
    refine lv_istore_n (lv' := [(3, .int (nI (0 ||| (og f (f j).2.1)))), (5, .int (nI 1)), (4, .int (nI 2)), (0, .ref (eA E 5)), (1, .ref (eA E (10 + 3 * b))), (2, .int (nI j))]) hx hy dX2_originsIn_50 rfl hl (by decide) rfl (fun ls hl => ?_)
    refine lv_iinc (v := nI 2) (lv' := [(5, .int (nI 2)), (3, .int (nI (0 ||| (og f (f j).2.1)))), (4, .int (nI 2)), (0, .ref (eA E 5)), (1, .ref (eA E (10 + 3 * b))), (2, .int (nI j))]) hx hy dX2_originsIn_51 hl (k := 1) rfl rfl (by decide) rfl (fun ls hl => ?_)
    refine lv_goto (tgt := 27) hx hy dX2_originsIn_54 (by decide) ?_
    refine lv_iload hx hy dX2_originsIn_27 (lv_at hl 0 rfl) ?_
    refine lv_iload hx hy dX2_originsIn_29 (lv_at hl 2 rfl) ?_
    refine lv_icmp_gt (tgt := 57) hx hy dX2_originsIn_31 (by decide) (fun q => absurd q (by decide)) (fun _ => ?_)
    refine lv_iload_n hx hy dX2_originsIn_34 rfl (lv_at hl 1 rfl) ?_
    refine lv_aload_n hx hy dX2_originsIn_35 rfl (lv_at hl 3 rfl) ?_
    refine gX2_origins F hI L_X2_18 dX2_originsIn_36 ?_
    refine lv_aload_n hx hy dX2_originsIn_39 rfl (lv_at hl 4 rfl) ?_
    refine lv_iload_n hx hy dX2_originsIn_40 rfl (lv_at hl 5 rfl) ?_
    refine lv_iload hx hy dX2_originsIn_41 (lv_at hl 0 rfl) ?_
    refine zI hI (xV F hI hl (kX0_numberOf l E (u) (b := b) hb (nI j) (nI 2)) M_X2_60 (rX0 F hI (b := b) hb) rfl ⟨Nat.le_of_ble_eq_true rfl, Nat.le_of_ble_eq_true rfl⟩ ⟨Nat.zero_le _, Nat.zero_le _⟩ rfl (Nat.le_of_ble_eq_true rfl) dX2_originsIn_43) (fun r63 v64 H locs hI hp62 => ?_)
    rw [show nI j * nI 3 + nI 2 - nI 1 = nI (3 * j + 1) from ix3 j 1, el_lt (by omega) (by decide)] at hp62
    subst hp62
    refine tI (hR.2 j hj).2.2.1 ?_
    refine zI hI (xS F hI hl (kX5_elementAt l E (u) iX2_origins (by decide) (nI ((f j).2.2.1))) M_X2_41 rfl ⟨Nat.le_of_ble_eq_true rfl, Nat.le_of_ble_eq_true rfl⟩ ⟨Nat.zero_le _, Nat.zero_le _⟩ rfl (Nat.le_of_ble_eq_true rfl) dX2_originsIn_46) (fun r66 v67 H locs hI hp65 => ?_)
    rw [el_lt (by omega) (by decide)] at hp65
    subst hp65
    refine tI xB ?_
    refine lv_ior hx hy dX2_originsIn_49 ?_
    refine tI (nI_or (0 ||| (og f (f j).2.1)) (og f (f j).2.2.1)) ?_
    refine lv_istore_n (lv' := [(3, .int (nI ((0 ||| (og f (f j).2.1)) ||| (og f (f j).2.2.1)))), (5, .int (nI 2)), (4, .int (nI 2)), (0, .ref (eA E 5)), (1, .ref (eA E (10 + 3 * b))), (2, .int (nI j))]) hx hy dX2_originsIn_50 rfl hl (by decide) rfl (fun ls hl => ?_)
    refine lv_iinc (v := nI 3) (lv' := [(5, .int (nI 3)), (3, .int (nI ((0 ||| (og f (f j).2.1)) ||| (og f (f j).2.2.1)))), (4, .int (nI 2)), (0, .ref (eA E 5)), (1, .ref (eA E (10 + 3 * b))), (2, .int (nI j))]) hx hy dX2_originsIn_51 hl (k := 1) rfl rfl (by decide) rfl (fun ls hl => ?_)
    refine lv_goto (tgt := 27) hx hy dX2_originsIn_54 (by decide) ?_
    refine lv_iload hx hy dX2_originsIn_27 (lv_at hl 0 rfl) ?_
    refine lv_iload hx hy dX2_originsIn_29 (lv_at hl 2 rfl) ?_
    refine lv_icmp_gt (tgt := 57) hx hy dX2_originsIn_31 (by decide) (fun _ => ?_) (fun q => absurd q (by decide))
    refine lv_iload_n hx hy dX2_originsIn_57 rfl (lv_at hl 1 rfl) ?_
    exact rI hQ F (v := ()) hI dX2_originsIn_58 (by rw [og_eq hok]; simp [ogS, hk1])
  · have hA := hok.2.2.1 (by omega)
    have hB := hok.2.2.2.1 (by omega) (by omega)
    have hC := hok.2.2.2.2.1 hk1
    have xA := hX (f j).2.1 hA
    have lA := hL (f j).2.1 hA
    have xB := hX (f j).2.2.1 hB
    have lB := hL (f j).2.2.1 hB
    have xC := hX (f j).2.2.2 hC
    have lC := hL (f j).2.2.2 hC
    refine lv_aload_n hx hy dX2_originsIn_0 rfl (lv_at hl 1 rfl) ?_
    refine lv_iload_n hx hy dX2_originsIn_1 rfl (lv_at hl 2 rfl) ?_
    refine zI hI (xV F hI hl (kX0_kindOf l E (u) (b := b) hb (nI j)) M_X2_66 (rX0 F hI (b := b) hb) rfl ⟨Nat.le_of_ble_eq_true rfl, Nat.le_of_ble_eq_true rfl⟩ ⟨Nat.zero_le _, Nat.zero_le _⟩ rfl (Nat.le_of_ble_eq_true rfl) dX2_originsIn_2) (fun r69 v70 H locs hI hp68 => ?_)
    rw [el_lt (by omega) (by decide)] at hp68
    subst hp68
    refine tI (show _ = nI 4 by rw [← hk1]; exact (hR.2 j hj).1) ?_
    refine lv_if_ne (tgt := 12) hx hy dX2_originsIn_5 (by decide) (fun _ => ?_) (fun q => absurd q (by decide))
    refine lv_iconst (v := nI 0) hx hy dX2_originsIn_12 (by decide) ?_
    refine lv_istore_n (lv' := [(3, .int (nI 0)), (0, .ref (eA E 5)), (1, .ref (eA E (10 + 3 * b))), (2, .int (nI j))]) hx hy dX2_originsIn_13 rfl hl (by decide) rfl (fun ls hl => ?_)
    refine lv_aload_n hx hy dX2_originsIn_14 rfl (lv_at hl 2 rfl) ?_
    refine lv_iload_n hx hy dX2_originsIn_15 rfl (lv_at hl 3 rfl) ?_
    refine zI hI (xV F hI hl (kX0_kindOf l E (u) (b := b) hb (nI j)) M_X2_66 (rX0 F hI (b := b) hb) rfl ⟨Nat.le_of_ble_eq_true rfl, Nat.le_of_ble_eq_true rfl⟩ ⟨Nat.zero_le _, Nat.zero_le _⟩ rfl (Nat.le_of_ble_eq_true rfl) dX2_originsIn_16) (fun r72 v73 H locs hI hp71 => ?_)
    rw [el_lt (by omega) (by decide)] at hp71
    subst hp71
    refine tI (show _ = nI 4 by rw [← hk1]; exact (hR.2 j hj).1) ?_
    refine zI hI (xS F hI hl (kX5_linesOfKind l E (u) 4 (by omega)) M_X2_80 rfl ⟨Nat.le_of_ble_eq_true rfl, Nat.le_of_ble_eq_true rfl⟩ ⟨Nat.zero_le _, Nat.zero_le _⟩ rfl (Nat.le_of_ble_eq_true rfl) dX2_originsIn_19) (fun r75 v76 H locs hI hp74 => ?_)
    subst hp74
    refine tI (show _ = nI 3 from rfl) ?_
    refine lv_istore (lv' := [(4, .int (nI 3)), (3, .int (nI 0)), (0, .ref (eA E 5)), (1, .ref (eA E (10 + 3 * b))), (2, .int (nI j))]) hx hy dX2_originsIn_22 hl (by decide) rfl (fun ls hl => ?_)
    refine lv_iconst (v := nI 1) hx hy dX2_originsIn_24 (by decide) ?_
    refine lv_istore (lv' := [(5, .int (nI 1)), (4, .int (nI 3)), (3, .int (nI 0)), (0, .ref (eA E 5)), (1, .ref (eA E (10 + 3 * b))), (2, .int (nI j))]) hx hy dX2_originsIn_25 hl (by decide) rfl (fun ls hl => ?_)
    refine lv_iload hx hy dX2_originsIn_27 (lv_at hl 0 rfl) ?_
    refine lv_iload hx hy dX2_originsIn_29 (lv_at hl 1 rfl) ?_
    refine lv_icmp_gt (tgt := 57) hx hy dX2_originsIn_31 (by decide) (fun q => absurd q (by decide)) (fun _ => ?_)
    refine lv_iload_n hx hy dX2_originsIn_34 rfl (lv_at hl 2 rfl) ?_
    refine lv_aload_n hx hy dX2_originsIn_35 rfl (lv_at hl 3 rfl) ?_
    refine gX2_origins F hI L_X2_18 dX2_originsIn_36 ?_
    refine lv_aload_n hx hy dX2_originsIn_39 rfl (lv_at hl 4 rfl) ?_
    refine lv_iload_n hx hy dX2_originsIn_40 rfl (lv_at hl 5 rfl) ?_
    refine lv_iload hx hy dX2_originsIn_41 (lv_at hl 0 rfl) ?_
    refine zI hI (xV F hI hl (kX0_numberOf l E (u) (b := b) hb (nI j) (nI 1)) M_X2_60 (rX0 F hI (b := b) hb) rfl ⟨Nat.le_of_ble_eq_true rfl, Nat.le_of_ble_eq_true rfl⟩ ⟨Nat.zero_le _, Nat.zero_le _⟩ rfl (Nat.le_of_ble_eq_true rfl) dX2_originsIn_43) (fun r78 v79 H locs hI hp77 => ?_)
    rw [show nI j * nI 3 + nI 1 - nI 1 = nI (3 * j) from ix3 j 0, el_lt (by omega) (by decide)] at hp77
    subst hp77
    refine tI (hR.2 j hj).2.1 ?_
    refine zI hI (xS F hI hl (kX5_elementAt l E (u) iX2_origins (by decide) (nI ((f j).2.1))) M_X2_41 rfl ⟨Nat.le_of_ble_eq_true rfl, Nat.le_of_ble_eq_true rfl⟩ ⟨Nat.zero_le _, Nat.zero_le _⟩ rfl (Nat.le_of_ble_eq_true rfl) dX2_originsIn_46) (fun r81 v82 H locs hI hp80 => ?_)
    rw [el_lt (by omega) (by decide)] at hp80
    subst hp80
    refine tI xA ?_
    refine lv_ior hx hy dX2_originsIn_49 ?_
    refine tI (nI_or (0) (og f (f j).2.1)) ?_
    refine lv_istore_n (lv' := [(3, .int (nI (0 ||| (og f (f j).2.1)))), (5, .int (nI 1)), (4, .int (nI 3)), (0, .ref (eA E 5)), (1, .ref (eA E (10 + 3 * b))), (2, .int (nI j))]) hx hy dX2_originsIn_50 rfl hl (by decide) rfl (fun ls hl => ?_)
    refine lv_iinc (v := nI 2) (lv' := [(5, .int (nI 2)), (3, .int (nI (0 ||| (og f (f j).2.1)))), (4, .int (nI 3)), (0, .ref (eA E 5)), (1, .ref (eA E (10 + 3 * b))), (2, .int (nI j))]) hx hy dX2_originsIn_51 hl (k := 1) rfl rfl (by decide) rfl (fun ls hl => ?_)
    refine lv_goto (tgt := 27) hx hy dX2_originsIn_54 (by decide) ?_
    refine lv_iload hx hy dX2_originsIn_27 (lv_at hl 0 rfl) ?_
    refine lv_iload hx hy dX2_originsIn_29 (lv_at hl 2 rfl) ?_
    refine lv_icmp_gt (tgt := 57) hx hy dX2_originsIn_31 (by decide) (fun q => absurd q (by decide)) (fun _ => ?_)
    refine lv_iload_n hx hy dX2_originsIn_34 rfl (lv_at hl 1 rfl) ?_
    refine lv_aload_n hx hy dX2_originsIn_35 rfl (lv_at hl 3 rfl) ?_
    refine gX2_origins F hI L_X2_18 dX2_originsIn_36 ?_
    refine lv_aload_n hx hy dX2_originsIn_39 rfl (lv_at hl 4 rfl) ?_
    refine lv_iload_n hx hy dX2_originsIn_40 rfl (lv_at hl 5 rfl) ?_
    refine lv_iload hx hy dX2_originsIn_41 (lv_at hl 0 rfl) ?_
    refine zI hI (xV F hI hl (kX0_numberOf l E (u) (b := b) hb (nI j) (nI 2)) M_X2_60 (rX0 F hI (b := b) hb) rfl ⟨Nat.le_of_ble_eq_true rfl, Nat.le_of_ble_eq_true rfl⟩ ⟨Nat.zero_le _, Nat.zero_le _⟩ rfl (Nat.le_of_ble_eq_true rfl) dX2_originsIn_43) (fun r84 v85 H locs hI hp83 => ?_)
    rw [show nI j * nI 3 + nI 2 - nI 1 = nI (3 * j + 1) from ix3 j 1, el_lt (by omega) (by decide)] at hp83
    subst hp83
    refine tI (hR.2 j hj).2.2.1 ?_
    refine zI hI (xS F hI hl (kX5_elementAt l E (u) iX2_origins (by decide) (nI ((f j).2.2.1))) M_X2_41 rfl ⟨Nat.le_of_ble_eq_true rfl, Nat.le_of_ble_eq_true rfl⟩ ⟨Nat.zero_le _, Nat.zero_le _⟩ rfl (Nat.le_of_ble_eq_true rfl) dX2_originsIn_46) (fun r87 v88 H locs hI hp86 => ?_)
    rw [el_lt (by omega) (by decide)] at hp86
    subst hp86
    refine tI xB ?_
    refine lv_ior hx hy dX2_originsIn_49 ?_
    refine tI (nI_or (0 ||| (og f (f j).2.1)) (og f (f j).2.2.1)) ?_
    refine lv_istore_n (lv' := [(3, .int (nI ((0 ||| (og f (f j).2.1)) ||| (og f (f j).2.2.1)))), (5, .int (nI 2)), (4, .int (nI 3)), (0, .ref (eA E 5)), (1, .ref (eA E (10 + 3 * b))), (2, .int (nI j))]) hx hy dX2_originsIn_50 rfl hl (by decide) rfl (fun ls hl => ?_)
    refine lv_iinc (v := nI 3) (lv' := [(5, .int (nI 3)), (3, .int (nI ((0 ||| (og f (f j).2.1)) ||| (og f (f j).2.2.1)))), (4, .int (nI 3)), (0, .ref (eA E 5)), (1, .ref (eA E (10 + 3 * b))), (2, .int (nI j))]) hx hy dX2_originsIn_51 hl (k := 1) rfl rfl (by decide) rfl (fun ls hl => ?_)
    refine lv_goto (tgt := 27) hx hy dX2_originsIn_54 (by decide) ?_
    refine lv_iload hx hy dX2_originsIn_27 (lv_at hl 0 rfl) ?_
    refine lv_iload hx hy dX2_originsIn_29 (lv_at hl 2 rfl) ?_
    refine lv_icmp_gt (tgt := 57) hx hy dX2_originsIn_31 (by decide) (fun q => absurd q (by decide)) (fun _ => ?_)
    refine lv_iload_n hx hy dX2_originsIn_34 rfl (lv_at hl 1 rfl) ?_
    refine lv_aload_n hx hy dX2_originsIn_35 rfl (lv_at hl 3 rfl) ?_
    refine gX2_origins F hI L_X2_18 dX2_originsIn_36 ?_
    refine lv_aload_n hx hy dX2_originsIn_39 rfl (lv_at hl 4 rfl) ?_
    refine lv_iload_n hx hy dX2_originsIn_40 rfl (lv_at hl 5 rfl) ?_
    refine lv_iload hx hy dX2_originsIn_41 (lv_at hl 0 rfl) ?_
    refine zI hI (xV F hI hl (kX0_numberOf l E (u) (b := b) hb (nI j) (nI 3)) M_X2_60 (rX0 F hI (b := b) hb) rfl ⟨Nat.le_of_ble_eq_true rfl, Nat.le_of_ble_eq_true rfl⟩ ⟨Nat.zero_le _, Nat.zero_le _⟩ rfl (Nat.le_of_ble_eq_true rfl) dX2_originsIn_43) (fun r90 v91 H locs hI hp89 => ?_)
    rw [show nI j * nI 3 + nI 3 - nI 1 = nI (3 * j + 2) from ix3 j 2, el_lt (by omega) (by decide)] at hp89
    subst hp89
    refine tI (hR.2 j hj).2.2.2 ?_
    refine zI hI (xS F hI hl (kX5_elementAt l E (u) iX2_origins (by decide) (nI ((f j).2.2.2))) M_X2_41 rfl ⟨Nat.le_of_ble_eq_true rfl, Nat.le_of_ble_eq_true rfl⟩ ⟨Nat.zero_le _, Nat.zero_le _⟩ rfl (Nat.le_of_ble_eq_true rfl) dX2_originsIn_46) (fun r93 v94 H locs hI hp92 => ?_)
    rw [el_lt (by omega) (by decide)] at hp92
    subst hp92
    refine tI xC ?_
    refine lv_ior hx hy dX2_originsIn_49 ?_
    refine tI (nI_or ((0 ||| (og f (f j).2.1)) ||| (og f (f j).2.2.1)) (og f (f j).2.2.2)) ?_
    refine lv_istore_n (lv' := [(3, .int (nI (((0 ||| (og f (f j).2.1)) ||| (og f (f j).2.2.1)) ||| (og f (f j).2.2.2)))), (5, .int (nI 3)), (4, .int (nI 3)), (0, .ref (eA E 5)), (1, .ref (eA E (10 + 3 * b))), (2, .int (nI j))]) hx hy dX2_originsIn_50 rfl hl (by decide) rfl (fun ls hl => ?_)
    refine lv_iinc (v := nI 4) (lv' := [(5, .int (nI 4)), (3, .int (nI (((0 ||| (og f (f j).2.1)) ||| (og f (f j).2.2.1)) ||| (og f (f j).2.2.2)))), (4, .int (nI 3)), (0, .ref (eA E 5)), (1, .ref (eA E (10 + 3 * b))), (2, .int (nI j))]) hx hy dX2_originsIn_51 hl (k := 1) rfl rfl (by decide) rfl (fun ls hl => ?_)
    refine lv_goto (tgt := 27) hx hy dX2_originsIn_54 (by decide) ?_
    refine lv_iload hx hy dX2_originsIn_27 (lv_at hl 0 rfl) ?_
    refine lv_iload hx hy dX2_originsIn_29 (lv_at hl 2 rfl) ?_
    refine lv_icmp_gt (tgt := 57) hx hy dX2_originsIn_31 (by decide) (fun _ => ?_) (fun q => absurd q (by decide))
    refine lv_iload_n hx hy dX2_originsIn_57 rfl (lv_at hl 1 rfl) ?_
    exact rI hQ F (v := ()) hI dX2_originsIn_58 (by rw [og_eq hok]; simp [ogS, hk1])
  · have hA := hok.2.2.1 (by omega)
    have xA := hX (f j).2.1 hA
    have lA := hL (f j).2.1 hA
    refine lv_aload_n hx hy dX2_originsIn_0 rfl (lv_at hl 1 rfl) ?_
    refine lv_iload_n hx hy dX2_originsIn_1 rfl (lv_at hl 2 rfl) ?_
    refine zI hI (xV F hI hl (kX0_kindOf l E (u) (b := b) hb (nI j)) M_X2_66 (rX0 F hI (b := b) hb) rfl ⟨Nat.le_of_ble_eq_true rfl, Nat.le_of_ble_eq_true rfl⟩ ⟨Nat.zero_le _, Nat.zero_le _⟩ rfl (Nat.le_of_ble_eq_true rfl) dX2_originsIn_2) (fun r96 v97 H locs hI hp95 => ?_)
    rw [el_lt (by omega) (by decide)] at hp95
    subst hp95
    refine tI (show _ = nI 5 by rw [← hk1]; exact (hR.2 j hj).1) ?_
    refine lv_if_ne (tgt := 12) hx hy dX2_originsIn_5 (by decide) (fun _ => ?_) (fun q => absurd q (by decide))
    refine lv_iconst (v := nI 0) hx hy dX2_originsIn_12 (by decide) ?_
    refine lv_istore_n (lv' := [(3, .int (nI 0)), (0, .ref (eA E 5)), (1, .ref (eA E (10 + 3 * b))), (2, .int (nI j))]) hx hy dX2_originsIn_13 rfl hl (by decide) rfl (fun ls hl => ?_)
    refine lv_aload_n hx hy dX2_originsIn_14 rfl (lv_at hl 2 rfl) ?_
    refine lv_iload_n hx hy dX2_originsIn_15 rfl (lv_at hl 3 rfl) ?_
    refine zI hI (xV F hI hl (kX0_kindOf l E (u) (b := b) hb (nI j)) M_X2_66 (rX0 F hI (b := b) hb) rfl ⟨Nat.le_of_ble_eq_true rfl, Nat.le_of_ble_eq_true rfl⟩ ⟨Nat.zero_le _, Nat.zero_le _⟩ rfl (Nat.le_of_ble_eq_true rfl) dX2_originsIn_16) (fun r99 v100 H locs hI hp98 => ?_)
    rw [el_lt (by omega) (by decide)] at hp98
    subst hp98
    refine tI (show _ = nI 5 by rw [← hk1]; exact (hR.2 j hj).1) ?_
    refine zI hI (xS F hI hl (kX5_linesOfKind l E (u) 5 (by omega)) M_X2_80 rfl ⟨Nat.le_of_ble_eq_true rfl, Nat.le_of_ble_eq_true rfl⟩ ⟨Nat.zero_le _, Nat.zero_le _⟩ rfl (Nat.le_of_ble_eq_true rfl) dX2_originsIn_19) (fun r102 v103 H locs hI hp101 => ?_)
    subst hp101
    refine tI (show _ = nI 1 from rfl) ?_
    refine lv_istore (lv' := [(4, .int (nI 1)), (3, .int (nI 0)), (0, .ref (eA E 5)), (1, .ref (eA E (10 + 3 * b))), (2, .int (nI j))]) hx hy dX2_originsIn_22 hl (by decide) rfl (fun ls hl => ?_)
    refine lv_iconst (v := nI 1) hx hy dX2_originsIn_24 (by decide) ?_
    refine lv_istore (lv' := [(5, .int (nI 1)), (4, .int (nI 1)), (3, .int (nI 0)), (0, .ref (eA E 5)), (1, .ref (eA E (10 + 3 * b))), (2, .int (nI j))]) hx hy dX2_originsIn_25 hl (by decide) rfl (fun ls hl => ?_)
    refine lv_iload hx hy dX2_originsIn_27 (lv_at hl 0 rfl) ?_
    refine lv_iload hx hy dX2_originsIn_29 (lv_at hl 1 rfl) ?_
    refine lv_icmp_gt (tgt := 57) hx hy dX2_originsIn_31 (by decide) (fun q => absurd q (by decide)) (fun _ => ?_)
    refine lv_iload_n hx hy dX2_originsIn_34 rfl (lv_at hl 2 rfl) ?_
    refine lv_aload_n hx hy dX2_originsIn_35 rfl (lv_at hl 3 rfl) ?_
    refine gX2_origins F hI L_X2_18 dX2_originsIn_36 ?_
    refine lv_aload_n hx hy dX2_originsIn_39 rfl (lv_at hl 4 rfl) ?_
    refine lv_iload_n hx hy dX2_originsIn_40 rfl (lv_at hl 5 rfl) ?_
    refine lv_iload hx hy dX2_originsIn_41 (lv_at hl 0 rfl) ?_
    refine zI hI (xV F hI hl (kX0_numberOf l E (u) (b := b) hb (nI j) (nI 1)) M_X2_60 (rX0 F hI (b := b) hb) rfl ⟨Nat.le_of_ble_eq_true rfl, Nat.le_of_ble_eq_true rfl⟩ ⟨Nat.zero_le _, Nat.zero_le _⟩ rfl (Nat.le_of_ble_eq_true rfl) dX2_originsIn_43) (fun r105 v106 H locs hI hp104 => ?_)
    rw [show nI j * nI 3 + nI 1 - nI 1 = nI (3 * j) from ix3 j 0, el_lt (by omega) (by decide)] at hp104
    subst hp104
    refine tI (hR.2 j hj).2.1 ?_
    refine zI hI (xS F hI hl (kX5_elementAt l E (u) iX2_origins (by decide) (nI ((f j).2.1))) M_X2_41 rfl ⟨Nat.le_of_ble_eq_true rfl, Nat.le_of_ble_eq_true rfl⟩ ⟨Nat.zero_le _, Nat.zero_le _⟩ rfl (Nat.le_of_ble_eq_true rfl) dX2_originsIn_46) (fun r108 v109 H locs hI hp107 => ?_)
    rw [el_lt (by omega) (by decide)] at hp107
    subst hp107
    refine tI xA ?_
    refine lv_ior hx hy dX2_originsIn_49 ?_
    refine tI (nI_or (0) (og f (f j).2.1)) ?_
    refine lv_istore_n (lv' := [(3, .int (nI (0 ||| (og f (f j).2.1)))), (5, .int (nI 1)), (4, .int (nI 1)), (0, .ref (eA E 5)), (1, .ref (eA E (10 + 3 * b))), (2, .int (nI j))]) hx hy dX2_originsIn_50 rfl hl (by decide) rfl (fun ls hl => ?_)
    refine lv_iinc (v := nI 2) (lv' := [(5, .int (nI 2)), (3, .int (nI (0 ||| (og f (f j).2.1)))), (4, .int (nI 1)), (0, .ref (eA E 5)), (1, .ref (eA E (10 + 3 * b))), (2, .int (nI j))]) hx hy dX2_originsIn_51 hl (k := 1) rfl rfl (by decide) rfl (fun ls hl => ?_)
    refine lv_goto (tgt := 27) hx hy dX2_originsIn_54 (by decide) ?_
    refine lv_iload hx hy dX2_originsIn_27 (lv_at hl 0 rfl) ?_
    refine lv_iload hx hy dX2_originsIn_29 (lv_at hl 2 rfl) ?_
    refine lv_icmp_gt (tgt := 57) hx hy dX2_originsIn_31 (by decide) (fun _ => ?_) (fun q => absurd q (by decide))
    refine lv_iload_n hx hy dX2_originsIn_57 rfl (lv_at hl 1 rfl) ?_
    exact rI hQ F (v := ()) hI dX2_originsIn_58 (by rw [og_eq hok]; simp [ogS, hk1])
  · have hA := hok.2.2.1 (by omega)
    have hD := hok.2.2.2.2.2.1 hk1
    have xA := hX (f j).2.1 hA
    have lA := hL (f j).2.1 hA
    refine lv_aload_n hx hy dX2_originsIn_0 rfl (lv_at hl 1 rfl) ?_
    refine lv_iload_n hx hy dX2_originsIn_1 rfl (lv_at hl 2 rfl) ?_
    refine zI hI (xV F hI hl (kX0_kindOf l E (u) (b := b) hb (nI j)) M_X2_66 (rX0 F hI (b := b) hb) rfl ⟨Nat.le_of_ble_eq_true rfl, Nat.le_of_ble_eq_true rfl⟩ ⟨Nat.zero_le _, Nat.zero_le _⟩ rfl (Nat.le_of_ble_eq_true rfl) dX2_originsIn_2) (fun r111 v112 H locs hI hp110 => ?_)
    rw [el_lt (by omega) (by decide)] at hp110
    subst hp110
    refine tI (show _ = nI 6 by rw [← hk1]; exact (hR.2 j hj).1) ?_
    refine lv_if_ne (tgt := 12) hx hy dX2_originsIn_5 (by decide) (fun _ => ?_) (fun q => absurd q (by decide))
    refine lv_iconst (v := nI 0) hx hy dX2_originsIn_12 (by decide) ?_
    refine lv_istore_n (lv' := [(3, .int (nI 0)), (0, .ref (eA E 5)), (1, .ref (eA E (10 + 3 * b))), (2, .int (nI j))]) hx hy dX2_originsIn_13 rfl hl (by decide) rfl (fun ls hl => ?_)
    refine lv_aload_n hx hy dX2_originsIn_14 rfl (lv_at hl 2 rfl) ?_
    refine lv_iload_n hx hy dX2_originsIn_15 rfl (lv_at hl 3 rfl) ?_
    refine zI hI (xV F hI hl (kX0_kindOf l E (u) (b := b) hb (nI j)) M_X2_66 (rX0 F hI (b := b) hb) rfl ⟨Nat.le_of_ble_eq_true rfl, Nat.le_of_ble_eq_true rfl⟩ ⟨Nat.zero_le _, Nat.zero_le _⟩ rfl (Nat.le_of_ble_eq_true rfl) dX2_originsIn_16) (fun r114 v115 H locs hI hp113 => ?_)
    rw [el_lt (by omega) (by decide)] at hp113
    subst hp113
    refine tI (show _ = nI 6 by rw [← hk1]; exact (hR.2 j hj).1) ?_
    refine zI hI (xS F hI hl (kX5_linesOfKind l E (u) 6 (by omega)) M_X2_80 rfl ⟨Nat.le_of_ble_eq_true rfl, Nat.le_of_ble_eq_true rfl⟩ ⟨Nat.zero_le _, Nat.zero_le _⟩ rfl (Nat.le_of_ble_eq_true rfl) dX2_originsIn_19) (fun r117 v118 H locs hI hp116 => ?_)
    subst hp116
    refine tI (show _ = nI 1 from rfl) ?_
    refine lv_istore (lv' := [(4, .int (nI 1)), (3, .int (nI 0)), (0, .ref (eA E 5)), (1, .ref (eA E (10 + 3 * b))), (2, .int (nI j))]) hx hy dX2_originsIn_22 hl (by decide) rfl (fun ls hl => ?_)
    refine lv_iconst (v := nI 1) hx hy dX2_originsIn_24 (by decide) ?_
    refine lv_istore (lv' := [(5, .int (nI 1)), (4, .int (nI 1)), (3, .int (nI 0)), (0, .ref (eA E 5)), (1, .ref (eA E (10 + 3 * b))), (2, .int (nI j))]) hx hy dX2_originsIn_25 hl (by decide) rfl (fun ls hl => ?_)
    refine lv_iload hx hy dX2_originsIn_27 (lv_at hl 0 rfl) ?_
    refine lv_iload hx hy dX2_originsIn_29 (lv_at hl 1 rfl) ?_
    refine lv_icmp_gt (tgt := 57) hx hy dX2_originsIn_31 (by decide) (fun q => absurd q (by decide)) (fun _ => ?_)
    refine lv_iload_n hx hy dX2_originsIn_34 rfl (lv_at hl 2 rfl) ?_
    refine lv_aload_n hx hy dX2_originsIn_35 rfl (lv_at hl 3 rfl) ?_
    refine gX2_origins F hI L_X2_18 dX2_originsIn_36 ?_
    refine lv_aload_n hx hy dX2_originsIn_39 rfl (lv_at hl 4 rfl) ?_
    refine lv_iload_n hx hy dX2_originsIn_40 rfl (lv_at hl 5 rfl) ?_
    refine lv_iload hx hy dX2_originsIn_41 (lv_at hl 0 rfl) ?_
    refine zI hI (xV F hI hl (kX0_numberOf l E (u) (b := b) hb (nI j) (nI 1)) M_X2_60 (rX0 F hI (b := b) hb) rfl ⟨Nat.le_of_ble_eq_true rfl, Nat.le_of_ble_eq_true rfl⟩ ⟨Nat.zero_le _, Nat.zero_le _⟩ rfl (Nat.le_of_ble_eq_true rfl) dX2_originsIn_43) (fun r120 v121 H locs hI hp119 => ?_)
    rw [show nI j * nI 3 + nI 1 - nI 1 = nI (3 * j) from ix3 j 0, el_lt (by omega) (by decide)] at hp119
    subst hp119
    refine tI (hR.2 j hj).2.1 ?_
    refine zI hI (xS F hI hl (kX5_elementAt l E (u) iX2_origins (by decide) (nI ((f j).2.1))) M_X2_41 rfl ⟨Nat.le_of_ble_eq_true rfl, Nat.le_of_ble_eq_true rfl⟩ ⟨Nat.zero_le _, Nat.zero_le _⟩ rfl (Nat.le_of_ble_eq_true rfl) dX2_originsIn_46) (fun r123 v124 H locs hI hp122 => ?_)
    rw [el_lt (by omega) (by decide)] at hp122
    subst hp122
    refine tI xA ?_
    refine lv_ior hx hy dX2_originsIn_49 ?_
    refine tI (nI_or (0) (og f (f j).2.1)) ?_
    refine lv_istore_n (lv' := [(3, .int (nI (0 ||| (og f (f j).2.1)))), (5, .int (nI 1)), (4, .int (nI 1)), (0, .ref (eA E 5)), (1, .ref (eA E (10 + 3 * b))), (2, .int (nI j))]) hx hy dX2_originsIn_50 rfl hl (by decide) rfl (fun ls hl => ?_)
    refine lv_iinc (v := nI 2) (lv' := [(5, .int (nI 2)), (3, .int (nI (0 ||| (og f (f j).2.1)))), (4, .int (nI 1)), (0, .ref (eA E 5)), (1, .ref (eA E (10 + 3 * b))), (2, .int (nI j))]) hx hy dX2_originsIn_51 hl (k := 1) rfl rfl (by decide) rfl (fun ls hl => ?_)
    refine lv_goto (tgt := 27) hx hy dX2_originsIn_54 (by decide) ?_
    refine lv_iload hx hy dX2_originsIn_27 (lv_at hl 0 rfl) ?_
    refine lv_iload hx hy dX2_originsIn_29 (lv_at hl 2 rfl) ?_
    refine lv_icmp_gt (tgt := 57) hx hy dX2_originsIn_31 (by decide) (fun _ => ?_) (fun q => absurd q (by decide))
    refine lv_iload_n hx hy dX2_originsIn_57 rfl (lv_at hl 1 rfl) ?_
    exact rI hQ F (v := ()) hI dX2_originsIn_58 (by rw [og_eq hok]; simp [ogS, hk1])
set_option maxHeartbeats 400000 in
set_option maxRecDepth 100000 in
theorem kX2_workOut (l : Launch) (E : EV) (u : SS) {b n : Nat} {f : Nat → Ln} (hb : b < 7) (hR : RepL b u.1 n f) (h16 : n ≤ 16) (hok : ∀ j, j < n → LnOk j (f j)) : CT l yX2_workOut cX2_workOut 3 none (Rm 3 68) [.ref (eA E 5), .ref (eA E (10 + 3 * b))] E u (Q_v E (fun c => FigI n f c ∧ FigO u.1 c) (fun (c : CF) => (c, u.2))) := by
  refine mstart RX2 (by decide +kernel) rfl (Nat.le_of_ble_eq_true rfl) ?_
  intro p e s m args below meth co ls Q hQ F hI hl
  have hx := F.1
  have hy := F.2.1
  have hl : lv_has ls 3 [(0, .ref (eA E 5)), (1, .ref (eA E (10 + 3 * b)))] := hl
  have hl3 := ex_le hok
  have hl4 : ∀ j, j < n → dp f j ≤ 16 := fun j hj => by have := dp_le hok j hj; omega
  have hl5 := og_lt h16 hok
  refine lv_iconst (v := nI 0) hx hy dX2_workOut_0 (by decide) ?_
  refine lv_istore_n (lv' := [(2, .int (nI 0)), (0, .ref (eA E 5)), (1, .ref (eA E (10 + 3 * b)))]) hx hy dX2_workOut_1 rfl hl (by decide) rfl (fun ls hl => ?_)
  have lp1 : ∀ (fu : Nat) (i : Nat) (c : CF), (i ≤ n) → (n - i < fu) → (∀ a, a < i → c 3 a = nI (ex f a)) → (∀ a, a < i → c 4 a = nI (dp f a)) → (∀ a, a < i → c 5 a = nI (og f a)) → (FigO u.1 c) →  ∀ (H : Heap) (locs : List Loc) (ls : Array Slot), Iv E s H locs ((c, u.2)) → lv_has ls 3 [(2, .int (nI i)), (0, .ref (eA E 5)), (1, .ref (eA E (10 + 3 * b)))] → W p l e (Rm 3 68) s m args below meth co H locs 0 0 Q (F0 m 2 ls []) := by
    intro fu
    induction fu with
    | zero => intro i c hi hf hF3 hF4 hF5 hO; exact absurd hf (Nat.not_lt_zero _)
    | succ fu ih =>
      intro i c hi hf hF3 hF4 hF5 hO H locs ls hI hl
      have hRc : RepL b c n f := hR.fig hO
      have ih_2 := ih
      refine lv_iload_n hx hy dX2_workOut_2 rfl (lv_at hl 0 rfl) ?_
      refine lv_aload_n hx hy dX2_workOut_3 rfl (lv_at hl 2 rfl) ?_
      refine gX0_size F hI (b := b) hb L_X2_21 dX2_workOut_4 ?_
      refine tI (show _ = c 2 b from rfl) ?_
      refine tI hRc.1 ?_
      refine lv_icmp_ge (tgt := 58) hx hy dX2_workOut_7 (by decide) (fun h2 => ?_) (fun h2 => ?_)
      · have h2 : n ≤ i := (nI_leI (a := n) (b := i) (by omega) (by omega)).mp h2
        exact rV hQ F (v := c) hI dX2_workOut_58 (by have e9 : i = n := (by omega); rw [e9] at hF3 hF4 hF5; exact ⟨⟨hF3, hF4, hF5⟩, hO⟩)
      · have h2 : i < n := Nat.lt_of_not_le (fun q9 => h2 ((nI_leI (a := n) (b := i) (by omega) (by omega)).mpr q9))
        refine lv_aload_n hx hy dX2_workOut_10 rfl (lv_at hl 1 rfl) ?_
        refine gX2_exactShares F hI L_X2_9 dX2_workOut_11 ?_
        refine lv_iload_n hx hy dX2_workOut_14 rfl (lv_at hl 0 rfl) ?_
        refine lv_aload_n hx hy dX2_workOut_15 rfl (lv_at hl 1 rfl) ?_
        refine lv_aload_n hx hy dX2_workOut_16 rfl (lv_at hl 2 rfl) ?_
        refine lv_iload_n hx hy dX2_workOut_17 rfl (lv_at hl 0 rfl) ?_
        refine zI hI (xV F hI hl (kX2_exactShareIn l E ((c, u.2)) (b := b) (n := n) (f := f) hb hRc h16 i (by omega) (hok i (by omega)) (fun a ha => hF3 a ha) (fun a ha => hl3 a (by omega))) M_X2_27 (rX2 F hI) rfl ⟨Nat.le_of_ble_eq_true rfl, Nat.le_of_ble_eq_true rfl⟩ ⟨Nat.zero_le _, Nat.zero_le _⟩ rfl (Nat.le_of_ble_eq_true rfl) dX2_workOut_18) (fun r4 v5 H locs hI hp3 => ?_)
        subst hp3
        refine zV hI (xS F hI hl (kX5_setElement l E ((c, u.2)) iX2_exactShares (by decide) (nI i) (nI (ex f i))) M_X2_31 rfl ⟨Nat.le_of_ble_eq_true rfl, Nat.le_of_ble_eq_true rfl⟩ ⟨Nat.zero_le _, Nat.zero_le _⟩ rfl (Nat.le_of_ble_eq_true rfl) dX2_workOut_21) (fun v8 H locs hI hp6 => ?_)
        rw [stE_lt (by omega) (by decide)] at hp6
        subst hp6
        obtain ⟨c9, ec9⟩ : ∃ z9 : CF, z9 = up c 3 i (nI (ex f i)) := ⟨_, rfl⟩
        have hI : Iv E s H locs (c9, u.2) := by rw [ec9]; exact hI
        have kf10 : c9 2 b = nI n := by rw [ec9, up_at, if_neg (by omega)]; exact hRc.1
        have hO12 : FigO u.1 c9 := by rw [ec9]; exact hO.up (by omega)
        have hR11 : RepL b c9 n f := hR.fig hO12
        refine lv_aload_n hx hy dX2_workOut_24 rfl (lv_at hl 1 rfl) ?_
        refine gX2_depths F hI L_X2_15 dX2_workOut_25 ?_
        refine lv_iload_n hx hy dX2_workOut_28 rfl (lv_at hl 0 rfl) ?_
        refine lv_aload_n hx hy dX2_workOut_29 rfl (lv_at hl 1 rfl) ?_
        refine lv_aload_n hx hy dX2_workOut_30 rfl (lv_at hl 2 rfl) ?_
        refine lv_iload_n hx hy dX2_workOut_31 rfl (lv_at hl 0 rfl) ?_
        refine zI hI (xV F hI hl (kX2_depthIn l E ((c9, u.2)) (b := b) (n := n) (f := f) hb hR11 h16 i (by omega) (hok i (by omega)) (fun a ha => (show c9 4 a = c 4 a by rw [ec9, up_at, if_neg (by omega)]).trans (hF4 a ha)) (fun a ha => hl4 a (by omega))) M_X2_35 (rX2 F hI) rfl ⟨Nat.le_of_ble_eq_true rfl, Nat.le_of_ble_eq_true rfl⟩ ⟨Nat.zero_le _, Nat.zero_le _⟩ rfl (Nat.le_of_ble_eq_true rfl) dX2_workOut_32) (fun r14 v15 H locs hI hp13 => ?_)
        subst hp13
        refine zV hI (xS F hI hl (kX5_setElement l E ((c9, u.2)) iX2_depths (by decide) (nI i) (nI (dp f i))) M_X2_31 rfl ⟨Nat.le_of_ble_eq_true rfl, Nat.le_of_ble_eq_true rfl⟩ ⟨Nat.zero_le _, Nat.zero_le _⟩ rfl (Nat.le_of_ble_eq_true rfl) dX2_workOut_35) (fun v18 H locs hI hp16 => ?_)
        rw [stE_lt (by omega) (by decide)] at hp16
        subst hp16
        obtain ⟨c19, ec19⟩ : ∃ z9 : CF, z9 = up c9 4 i (nI (dp f i)) := ⟨_, rfl⟩
        have hI : Iv E s H locs (c19, u.2) := by rw [ec19]; exact hI
        have kf20 : c19 2 b = nI n := by rw [ec19, up_at, if_neg (by omega)]; exact kf10
        have hO22 : FigO u.1 c19 := by rw [ec19]; exact hO12.up (by omega)
        have hR21 : RepL b c19 n f := hR.fig hO22
        refine lv_aload_n hx hy dX2_workOut_38 rfl (lv_at hl 1 rfl) ?_
        refine gX2_origins F hI L_X2_18 dX2_workOut_39 ?_
        refine lv_iload_n hx hy dX2_workOut_42 rfl (lv_at hl 0 rfl) ?_
        refine lv_aload_n hx hy dX2_workOut_43 rfl (lv_at hl 1 rfl) ?_
        refine lv_aload_n hx hy dX2_workOut_44 rfl (lv_at hl 2 rfl) ?_
        refine lv_iload_n hx hy dX2_workOut_45 rfl (lv_at hl 0 rfl) ?_
        refine zI hI (xV F hI hl (kX2_originsIn l E ((c19, u.2)) (b := b) (n := n) (f := f) hb hR21 h16 i (by omega) (hok i (by omega)) (fun a ha => (show c19 5 a = c 5 a by rw [ec19, up_at, if_neg (by omega), ec9, up_at, if_neg (by omega)]).trans (hF5 a ha)) (fun a ha => hl5 a (by omega))) M_X2_38 (rX2 F hI) rfl ⟨Nat.le_of_ble_eq_true rfl, Nat.le_of_ble_eq_true rfl⟩ ⟨Nat.zero_le _, Nat.zero_le _⟩ rfl (Nat.le_of_ble_eq_true rfl) dX2_workOut_46) (fun r24 v25 H locs hI hp23 => ?_)
        subst hp23
        refine zV hI (xS F hI hl (kX5_setElement l E ((c19, u.2)) iX2_origins (by decide) (nI i) (nI (og f i))) M_X2_31 rfl ⟨Nat.le_of_ble_eq_true rfl, Nat.le_of_ble_eq_true rfl⟩ ⟨Nat.zero_le _, Nat.zero_le _⟩ rfl (Nat.le_of_ble_eq_true rfl) dX2_workOut_49) (fun v28 H locs hI hp26 => ?_)
        rw [stE_lt (by omega) (by decide)] at hp26
        subst hp26
        obtain ⟨c29, ec29⟩ : ∃ z9 : CF, z9 = up c19 5 i (nI (og f i)) := ⟨_, rfl⟩
        have hI : Iv E s H locs (c29, u.2) := by rw [ec29]; exact hI
        have kf30 : c29 2 b = nI n := by rw [ec29, up_at, if_neg (by omega)]; exact kf20
        have hO32 : FigO u.1 c29 := by rw [ec29]; exact hO22.up (by omega)
        have hR31 : RepL b c29 n f := hR.fig hO32
        refine lv_iinc (v := nI (i + 1)) (lv' := [(2, .int (nI (i + 1))), (0, .ref (eA E 5)), (1, .ref (eA E (10 + 3 * b)))]) hx hy dX2_workOut_52 hl (k := 0) rfl (nI_add (i) 1) (by decide) rfl (fun ls hl => ?_)
        refine lv_goto (tgt := 2) hx hy dX2_workOut_55 (by decide) ?_
        exact ih_2 (i + 1) c29 (by omega) (by omega) (fun a ha => by rw [ec29, up_at, ec19, up_at, ec9, up_at]; by_cases e9 : a = i; rw [e9]; simp; rw [if_neg (by omega), if_neg (by omega), if_neg (by omega)]; exact hF3 a (by omega)) (fun a ha => by rw [ec29, up_at, ec19, up_at, ec9, up_at]; by_cases e9 : a = i; rw [e9]; simp; rw [if_neg (by omega), if_neg (by omega), if_neg (by omega)]; exact hF4 a (by omega)) (fun a ha => by rw [ec29, up_at, ec19, up_at, ec9, up_at]; by_cases e9 : a = i; rw [e9]; simp; rw [if_neg (by omega), if_neg (by omega), if_neg (by omega)]; exact hF5 a (by omega)) hO32 _ _ _ hI (lv_sub hl [0, 1, 2] rfl)
  exact lp1 (n + 1) 0 u.1 (Nat.zero_le _) (by omega) (fun a ha => absurd ha (Nat.not_lt_zero a)) (fun a ha => absurd ha (Nat.not_lt_zero a)) (fun a ha => absurd ha (Nat.not_lt_zero a)) (fun _ _ _ _ _ => rfl) _ _ _ hI (lv_sub hl [0, 1, 2] rfl)
