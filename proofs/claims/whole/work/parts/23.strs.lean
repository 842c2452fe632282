set_option maxHeartbeats 400000 in
set_option maxRecDepth 100000 in
theorem kJ0_isLatin1_aae02 (l : Launch) (E : EV) (u : SS) (i : Nat) (hi : i < 7) : CT l yJ0_isLatin1_aae02 cJ0_isLatin1_aae02 1 (some .boolean) (Rm 0 0) [.ref (eS E (10 + i))] E u (Q_i E (fun r _ => r = nI 1) (fun (_ : Unit) => u)) := by
  refine mstartF RJ0 (by decide +kernel) rfl (Nat.le_of_ble_eq_true rfl) ?_
  intro p e s m args below meth co ls Q hQ F hI hl
  have hx := F.1
  have hy := F.2.1
  have hl : lv_has ls 1 [(0, .ref (eS E (10 + i)))] := hl
  refine sgS F hI L_J0_38 dJ0_isLatin1_aae02_0 ?_
  refine lv_if_eq (tgt := 17) hx hy dJ0_isLatin1_aae02_3 (by decide) (fun q => absurd q (by decide)) (fun _ => ?_)
  refine lv_aload_n hx hy dJ0_isLatin1_aae02_6 rfl (lv_at hl 0 rfl) ?_
  refine sgC F hI (i := i) hi L_J0_15 dJ0_isLatin1_aae02_7 ?_
  refine lv_if_ne (tgt := 17) hx hy dJ0_isLatin1_aae02_10 (by decide) (fun q => absurd q (by decide)) (fun _ => ?_)
  refine lv_iconst (v := nI 1) hx hy dJ0_isLatin1_aae02_13 (by decide) ?_
  refine lv_goto (tgt := 18) hx hy dJ0_isLatin1_aae02_14 (by decide) ?_
  exact rZ hQ F (v := ()) rfl hI dJ0_isLatin1_aae02_18 rfl
set_option maxHeartbeats 400000 in
set_option maxRecDepth 100000 in
theorem kJ0_isEmpty_aae02 (l : Launch) (E : EV) (u : SS) (i : Nat) (hi : i < 7) : CT l yJ0_isEmpty_aae02 cJ0_isEmpty_aae02 1 (some .boolean) (Rm 0 0) [.ref (eS E (10 + i))] E u (Q_i E (fun r _ => r = nI 0) (fun (_ : Unit) => u)) := by
  refine mstartF RJ0 (by decide +kernel) rfl (Nat.le_of_ble_eq_true rfl) ?_
  intro p e s m args below meth co ls Q hQ F hI hl
  have hx := F.1
  have hy := F.2.1
  have hl : lv_has ls 1 [(0, .ref (eS E (10 + i)))] := hl
  refine lv_aload_n hx hy dJ0_isEmpty_aae02_0 rfl (lv_at hl 0 rfl) ?_
  refine sgV F hI (i := i) hi L_J0_9 dJ0_isEmpty_aae02_1 ?_
  refine snV F hI (i := i) hi dJ0_isEmpty_aae02_4 ?_
  refine lv_if_ne (tgt := 12) hx hy dJ0_isEmpty_aae02_5 (by decide) (fun h1 => ?_) (fun h1 => ?_)
  · have h1 : lnW i ≠ 0 := fun q9 => h1 ((nI_eq (a := lnW i) (b := 0) (by have := (lnW_pos i hi).2; omega) (by omega)).mpr q9)
    refine lv_iconst (v := nI 0) hx hy dJ0_isEmpty_aae02_12 (by decide) ?_
    exact rZ hQ F (v := ()) rfl hI dJ0_isEmpty_aae02_13 rfl
  · have h1 : lnW i = 0 := (nI_eq (a := lnW i) (b := 0) (by have := (lnW_pos i hi).2; omega) (by omega)).mp h1
    exact absurd h1 (by have := (lnW_pos i hi).1; omega)
set_option maxHeartbeats 400000 in
set_option maxRecDepth 100000 in
theorem kJ0_coder_7d493 (l : Launch) (E : EV) (u : SS) (i : Nat) (hi : i < 7) : CT l yJ0_coder_7d493 cJ0_coder_7d493 1 (some .byte) (Rm 0 0) [.ref (eS E (10 + i))] E u (Q_i E (fun r _ => r = nI 0) (fun (_ : Unit) => u)) := by
  refine mstartF RJ0 (by decide +kernel) rfl (Nat.le_of_ble_eq_true rfl) ?_
  intro p e s m args below meth co ls Q hQ F hI hl
  have hx := F.1
  have hy := F.2.1
  have hl : lv_has ls 1 [(0, .ref (eS E (10 + i)))] := hl
  refine sgS F hI L_J0_38 dJ0_coder_7d493_0 ?_
  refine lv_if_eq (tgt := 13) hx hy dJ0_coder_7d493_3 (by decide) (fun q => absurd q (by decide)) (fun _ => ?_)
  refine lv_aload_n hx hy dJ0_coder_7d493_6 rfl (lv_at hl 0 rfl) ?_
  refine sgC F hI (i := i) hi L_J0_15 dJ0_coder_7d493_7 ?_
  refine lv_goto (tgt := 14) hx hy dJ0_coder_7d493_10 (by decide) ?_
  exact rZ hQ F (v := ()) rfl hI dJ0_coder_7d493_14 rfl
set_option maxHeartbeats 400000 in
set_option maxRecDepth 100000 in
theorem kJ0_length_8abf5 (l : Launch) (E : EV) (u : SS) (i : Nat) (hi : i < 7) : CT l yJ0_length_8abf5 cJ0_length_8abf5 1 (some .int) (Rm 1 20) [.ref (eS E (10 + i))] E u (Q_i E (fun r _ => r = nI (lnW i)) (fun (_ : Unit) => u)) := by
  refine mstartF RJ0 (by decide +kernel) rfl (Nat.le_of_ble_eq_true rfl) ?_
  intro p e s m args below meth co ls Q hQ F hI hl
  have hx := F.1
  have hy := F.2.1
  have hl : lv_has ls 1 [(0, .ref (eS E (10 + i)))] := hl
  refine lv_aload_n hx hy dJ0_length_8abf5_0 rfl (lv_at hl 0 rfl) ?_
  refine sgV F hI (i := i) hi L_J0_9 dJ0_length_8abf5_1 ?_
  refine snV F hI (i := i) hi dJ0_length_8abf5_4 ?_
  refine lv_aload_n hx hy dJ0_length_8abf5_5 rfl (lv_at hl 0 rfl) ?_
  refine zI hI (xV F hI hl (kJ0_coder_7d493 l E (u) i hi) M_J0_335 (sR F hI hi) rfl ⟨Nat.le_of_ble_eq_true rfl, Nat.le_of_ble_eq_true rfl⟩ ⟨Nat.zero_le _, Nat.zero_le _⟩ rfl (Nat.le_of_ble_eq_true rfl) dJ0_length_8abf5_6) (fun r2 v3 H locs hI hp1 => ?_)
  subst hp1
  refine lv_ishr hx hy dJ0_length_8abf5_9 ?_
  exact rI hQ F (v := ()) hI dJ0_length_8abf5_10 (by rw [show nI 0 &&& 31 = (0 : Int32) &&& 31 from rfl]; exact sc_shr0 (n := lnW i) (by have := (lnW_pos i hi).2; omega))
set_option maxHeartbeats 400000 in
set_option maxRecDepth 100000 in
theorem kJ3_checkIndex_8e157_n (l : Launch) (E : EV) (u : SS) (a b : Nat) (hab : a < b) (hb : b < 2 ^ 31) : CT l yJ3_checkIndex_8e157 cJ3_checkIndex_8e157 3 (some .int) (Rm 0 0) [.int (nI a), .int (nI b), .null] E u (Q_i E (fun r _ => r = nI a) (fun (_ : Unit) => u)) := by
  refine mstartF RJ3 (by decide +kernel) rfl (Nat.le_of_ble_eq_true rfl) ?_
  intro p e s m args below meth co ls Q hQ F hI hl
  have hx := F.1
  have hy := F.2.1
  have hl : lv_has ls 3 [(0, .int (nI a)), (1, .int (nI b)), (2, .null)] := hl
  refine lv_iload_n hx hy dJ3_checkIndex_8e157_0 rfl (lv_at hl 0 rfl) ?_
  refine lv_if_lt (tgt := 9) hx hy dJ3_checkIndex_8e157_1 (by decide) (fun h1 => ?_) (fun h1 => ?_)
  · have h1 : a < 0 := (nI_ltI (a := a) (b := 0) (by omega) (by omega)).mp h1
    exact absurd h1 (by omega)
  · have h1 : 0 ≤ a := Nat.le_of_not_lt (fun q9 => h1 ((nI_ltI (a := a) (b := 0) (by omega) (by omega)).mpr q9))
    refine lv_iload_n hx hy dJ3_checkIndex_8e157_4 rfl (lv_at hl 0 rfl) ?_
    refine lv_iload_n hx hy dJ3_checkIndex_8e157_5 rfl (lv_at hl 1 rfl) ?_
    refine lv_icmp_lt (tgt := 16) hx hy dJ3_checkIndex_8e157_6 (by decide) (fun h2 => ?_) (fun h2 => ?_)
    · have h2 : a < b := (nI_ltI (a := a) (b := b) (by omega) (by omega)).mp h2
      refine lv_iload_n hx hy dJ3_checkIndex_8e157_16 rfl (lv_at hl 0 rfl) ?_
      exact rI hQ F (v := ()) hI dJ3_checkIndex_8e157_17 rfl
    · have h2 : b ≤ a := Nat.le_of_not_lt (fun q9 => h2 ((nI_ltI (a := a) (b := b) (by omega) (by omega)).mpr q9))
      exact absurd h2 (by omega)
set_option maxHeartbeats 400000 in
set_option maxRecDepth 100000 in
theorem kJ3_checkIndex_8e157_r (l : Launch) (E : EV) (u : SS) (a b : Nat) (hab : a < b) (hb : b < 2 ^ 31) (t0 : Nat) : CT l yJ3_checkIndex_8e157 cJ3_checkIndex_8e157 3 (some .int) (Rm 0 0) [.int (nI a), .int (nI b), .ref (t0)] E u (Q_i E (fun r _ => r = nI a) (fun (_ : Unit) => u)) := by
  refine mstartF RJ3 (by decide +kernel) rfl (Nat.le_of_ble_eq_true rfl) ?_
  intro p e s m args below meth co ls Q hQ F hI hl
  have hx := F.1
  have hy := F.2.1
  have hl : lv_has ls 3 [(0, .int (nI a)), (1, .int (nI b)), (2, .ref (t0))] := hl
  refine lv_iload_n hx hy dJ3_checkIndex_8e157_0 rfl (lv_at hl 0 rfl) ?_
  refine lv_if_lt (tgt := 9) hx hy dJ3_checkIndex_8e157_1 (by decide) (fun h1 => ?_) (fun h1 => ?_)
  · have h1 : a < 0 := (nI_ltI (a := a) (b := 0) (by omega) (by omega)).mp h1
    exact absurd h1 (by omega)
  · have h1 : 0 ≤ a := Nat.le_of_not_lt (fun q9 => h1 ((nI_ltI (a := a) (b := 0) (by omega) (by omega)).mpr q9))
    refine lv_iload_n hx hy dJ3_checkIndex_8e157_4 rfl (lv_at hl 0 rfl) ?_
    refine lv_iload_n hx hy dJ3_checkIndex_8e157_5 rfl (lv_at hl 1 rfl) ?_
    refine lv_icmp_lt (tgt := 16) hx hy dJ3_checkIndex_8e157_6 (by decide) (fun h2 => ?_) (fun h2 => ?_)
    · have h2 : a < b := (nI_ltI (a := a) (b := b) (by omega) (by omega)).mp h2
      refine lv_iload_n hx hy dJ3_checkIndex_8e157_16 rfl (lv_at hl 0 rfl) ?_
      exact rI hQ F (v := ()) hI dJ3_checkIndex_8e157_17 rfl
    · have h2 : b ≤ a := Nat.le_of_not_lt (fun q9 => h2 ((nI_ltI (a := a) (b := b) (by omega) (by omega)).mpr q9))
      exact absurd h2 (by omega)
set_option maxHeartbeats 400000 in
set_option maxRecDepth 100000 in
theorem kJ0_checkIndex_df160 (l : Launch) (E : EV) (u : SS) (a b : Nat) (hab : a < b) (hb : b < 2 ^ 31) : CT l yJ0_checkIndex_df160 cJ0_checkIndex_df160 2 none (Rm 1 22) [.int (nI a), .int (nI b)] E u (Q_v E (fun _ => True) (fun (_ : Unit) => u)) := by
  refine mstartF RJ0 (by decide +kernel) rfl (Nat.le_of_ble_eq_true rfl) ?_
  intro p e s m args below meth co ls Q hQ F hI hl
  have hx := F.1
  have hy := F.2.1
  have hl : lv_has ls 2 [(0, .int (nI a)), (1, .int (nI b))] := hl
  refine lv_iload_n hx hy dJ0_checkIndex_df160_0 rfl (lv_at hl 0 rfl) ?_
  refine lv_iload_n hx hy dJ0_checkIndex_df160_1 rfl (lv_at hl 1 rfl) ?_
  refine sgF F hI L_J0_1053 dJ0_checkIndex_df160_2 ?_ ?_
  · refine zI hI (xS F hI hl (kJ3_checkIndex_8e157_n l E (u) a b (by omega) (by omega)) M_J0_1059 rfl ⟨Nat.le_of_ble_eq_true rfl, Nat.le_of_ble_eq_true rfl⟩ ⟨Nat.zero_le _, Nat.zero_le _⟩ rfl (Nat.le_of_ble_eq_true rfl) dJ0_checkIndex_df160_5) (fun r2 v3 H locs hI hp1 => ?_)
    subst hp1
    refine lv_pop hx hy dJ0_checkIndex_df160_8 rfl ?_
    exact rV hQ F (v := ()) hI dJ0_checkIndex_df160_9 trivial
  · intro tf
    refine zI hI (xS F hI hl (kJ3_checkIndex_8e157_r l E (u) a b (by omega) (by omega) tf) M_J0_1059 rfl ⟨Nat.le_of_ble_eq_true rfl, Nat.le_of_ble_eq_true rfl⟩ ⟨Nat.zero_le _, Nat.zero_le _⟩ rfl (Nat.le_of_ble_eq_true rfl) dJ0_checkIndex_df160_5) (fun r5 v6 H locs hI hp4 => ?_)
    subst hp4
    refine lv_pop hx hy dJ0_checkIndex_df160_8 rfl ?_
    exact rV hQ F (v := ()) hI dJ0_checkIndex_df160_9 trivial
set_option maxHeartbeats 400000 in
set_option maxRecDepth 100000 in
theorem kJ1_charAt_3b067 (l : Launch) (E : EV) (u : SS) (i : Nat) (hi : i < 7) (j : Nat) (hj : j < lnW i) : CT l yJ1_charAt_3b067 cJ1_charAt_3b067 2 (some .char) (Rm 2 43) [.ref (eS E (20 + i)), .int (nI j)] E u (Q_i E (fun r _ => r = nI (chW i j)) (fun (_ : Unit) => u)) := by
  refine mstartF RJ1 (by decide +kernel) rfl (Nat.le_of_ble_eq_true rfl) ?_
  intro p e s m args below meth co ls Q hQ F hI hl
  have hx := F.1
  have hy := F.2.1
  have hl : lv_has ls 2 [(0, .ref (eS E (20 + i))), (1, .int (nI j))] := hl
  refine lv_iload_n hx hy dJ1_charAt_3b067_0 rfl (lv_at hl 1 rfl) ?_
  refine lv_aload_n hx hy dJ1_charAt_3b067_1 rfl (lv_at hl 0 rfl) ?_
  refine snV F hI (i := i) hi dJ1_charAt_3b067_2 ?_
  refine zV hI (xS F hI hl (kJ0_checkIndex_df160 l E (u) j (lnW i) hj (by have := (lnW_pos i hi).2; omega)) M_J1_9 rfl ⟨Nat.le_of_ble_eq_true rfl, Nat.le_of_ble_eq_true rfl⟩ ⟨Nat.zero_le _, Nat.zero_le _⟩ rfl (Nat.le_of_ble_eq_true rfl) dJ1_charAt_3b067_3) (fun v3 H locs hI hp1 => ?_)
  refine lv_aload_n hx hy dJ1_charAt_3b067_6 rfl (lv_at hl 0 rfl) ?_
  refine lv_iload_n hx hy dJ1_charAt_3b067_7 rfl (lv_at hl 1 rfl) ?_
  refine sbV F hI (i := i) (j := j) hi hj dJ1_charAt_3b067_8 ?_
  refine lv_sipush (v := nI 255) hx hy dJ1_charAt_3b067_9 (by decide) ?_
  refine lv_iand hx hy dJ1_charAt_3b067_12 ?_
  refine lv_i2c (v := (Int32.toUInt32 (((bytW.getD i []).getD j 0) &&& (nI 255)) % 65536).toInt32) hx hy dJ1_charAt_3b067_13 rfl ?_
  exact rZ hQ F (v := ()) (by rw [byt_ch i hi j hj]; exact (nar_ch (by have := chW_lt i hi j hj; omega)).1) hI dJ1_charAt_3b067_14 (byt_ch i hi j hj)
set_option maxHeartbeats 400000 in
set_option maxRecDepth 100000 in
theorem kJ0_charAt_5068e (l : Launch) (E : EV) (u : SS) (i : Nat) (hi : i < 7) (j : Nat) (hj : j < lnW i) : CT l yJ0_charAt_5068e cJ0_charAt_5068e 2 (some .char) (Rm 4 85) [.ref (eS E (10 + i)), .int (nI j)] E u (Q_i E (fun r _ => r = nI (chW i j)) (fun (_ : Unit) => u)) := by
  refine mstartF RJ0 (by decide +kernel) rfl (Nat.le_of_ble_eq_true rfl) ?_
  intro p e s m args below meth co ls Q hQ F hI hl
  have hx := F.1
  have hy := F.2.1
  have hl : lv_has ls 2 [(0, .ref (eS E (10 + i))), (1, .int (nI j))] := hl
  refine lv_aload_n hx hy dJ0_charAt_5068e_0 rfl (lv_at hl 0 rfl) ?_
  refine zI hI (xV F hI hl (kJ0_isLatin1_aae02 l E (u) i hi) M_J0_492 (sR F hI hi) rfl ⟨Nat.le_of_ble_eq_true rfl, Nat.le_of_ble_eq_true rfl⟩ ⟨Nat.zero_le _, Nat.zero_le _⟩ rfl (Nat.le_of_ble_eq_true rfl) dJ0_charAt_5068e_1) (fun r2 v3 H locs hI hp1 => ?_)
  subst hp1
  refine lv_if_eq (tgt := 16) hx hy dJ0_charAt_5068e_4 (by decide) (fun q => absurd q (by decide)) (fun _ => ?_)
  refine lv_aload_n hx hy dJ0_charAt_5068e_7 rfl (lv_at hl 0 rfl) ?_
  refine sgV F hI (i := i) hi L_J0_9 dJ0_charAt_5068e_8 ?_
  refine lv_iload_n hx hy dJ0_charAt_5068e_11 rfl (lv_at hl 1 rfl) ?_
  refine zI hI (xS F hI hl (kJ1_charAt_3b067 l E (u) i hi j hj) M_J0_495 rfl ⟨Nat.le_of_ble_eq_true rfl, Nat.le_of_ble_eq_true rfl⟩ ⟨Nat.zero_le _, Nat.zero_le _⟩ rfl (Nat.le_of_ble_eq_true rfl) dJ0_charAt_5068e_12) (fun r5 v6 H locs hI hp4 => ?_)
  subst hp4
  exact rZ hQ F (v := ()) (nar_ch (by have := chW_lt i hi j hj; omega)).1 hI dJ0_charAt_5068e_15 rfl
