set_option maxHeartbeats 400000 in
set_option maxRecDepth 100000 in
theorem kJ9_floorMod_7cf53 (l : Launch) (E : EV) (u : SS) (a : Nat) (ha : a < 9) : CT l yJ9_floorMod_7cf53 cJ9_floorMod_7cf53 3 (some .int) (Rm 0 0) [.int (nI a), .int (nI 4)] E u (Q_i E (fun r _ => r = nI (a % 4)) (fun (_ : Unit) => u)) := by
  refine mstartF RJ9 (by decide +kernel) rfl (Nat.le_of_ble_eq_true rfl) ?_
  intro p e s m args below meth co ls Q hQ F hI hl
  have hx := F.1
  have hy := F.2.1
  have hl : lv_has ls 3 [(0, .int (nI a)), (1, .int (nI 4))] := hl
  refine lv_iload_n hx hy dJ9_floorMod_7cf53_0 rfl (lv_at hl 0 rfl) ?_
  refine lv_iload_n hx hy dJ9_floorMod_7cf53_1 rfl (lv_at hl 1 rfl) ?_
  refine lv_irem hx hy dJ9_floorMod_7cf53_2 (fun q => absurd ((nI_eq (by omega) (by omega)).mp (show nI (4) = nI 0 from q)) (by omega)) ?_
  refine tI (pk_rem (a := a) (d := 4) (by omega) (by omega) (by omega)) ?_
  refine lv_istore_n (lv' := [(2, .int (nI (a % 4))), (0, .int (nI a)), (1, .int (nI 4))]) hx hy dJ9_floorMod_7cf53_3 rfl hl (by decide) rfl (fun ls hl => ?_)
  refine lv_iload_n hx hy dJ9_floorMod_7cf53_4 rfl (lv_at hl 1 rfl) ?_
  refine lv_iload_n hx hy dJ9_floorMod_7cf53_5 rfl (lv_at hl 2 rfl) ?_
  refine lv_ixor hx hy dJ9_floorMod_7cf53_6 ?_
  refine lv_if_ge (tgt := 18) hx hy dJ9_floorMod_7cf53_7 (by decide) (fun h1 => ?_) (fun h1 => ?_)
  · refine lv_iload_n hx hy dJ9_floorMod_7cf53_18 rfl (lv_at hl 0 rfl) ?_
    exact rI hQ F (v := ()) hI dJ9_floorMod_7cf53_19 rfl
  · exact absurd (fm_nn a ha) h1
set_option maxHeartbeats 400000 in
set_option maxRecDepth 100000 in
theorem kX3_stateAt (l : Launch) (E : EV) (u : SS) {o : Nat} (a : Nat) (ho : u.1 0 1 = nI o) (ho4 : o < 4) (ha : a ≤ 4) : CT l yX3_stateAt cX3_stateAt 3 (some (.object "ShareStreams$Bench")) (Rm 1 22) [.ref (eA E 1), .int (nI a)] E u (Q_q E (fun r _ => r = some (eA E (10 + 3 * (3 + (o + a) % 4)))) (fun (_ : Unit) => u)) := by
  refine mstart RX3 (by decide +kernel) rfl (Nat.le_of_ble_eq_true rfl) ?_
  intro p e s m args below meth co ls Q hQ F hI hl
  have hx := F.1
  have hy := F.2.1
  have hl : lv_has ls 3 [(0, .ref (eA E 1)), (1, .int (nI a))] := hl
  refine lv_aload_n hx hy dX3_stateAt_0 rfl (lv_at hl 0 rfl) ?_
  refine gX3_oldest F hI L_X3_17 dX3_stateAt_1 ?_
  refine tI ho ?_
  refine lv_iload_n hx hy dX3_stateAt_4 rfl (lv_at hl 1 rfl) ?_
  refine lv_iadd hx hy dX3_stateAt_5 ?_
  refine tI (nI_add (o) (a)) ?_
  refine lv_iconst (v := nI 4) hx hy dX3_stateAt_6 (by decide) ?_
  refine zI hI (xS F hI hl (kJ9_floorMod_7cf53 l E (u) (o + a) (by omega)) M_X3_33 rfl ⟨Nat.le_of_ble_eq_true rfl, Nat.le_of_ble_eq_true rfl⟩ ⟨Nat.zero_le _, Nat.zero_le _⟩ rfl (Nat.le_of_ble_eq_true rfl) dX3_stateAt_7) (fun r2 v3 H locs hI hp1 => ?_)
  subst hp1
  refine lv_istore_n (lv' := [(2, .int (nI ((o + a) % 4))), (0, .ref (eA E 1)), (1, .int (nI a))]) hx hy dX3_stateAt_10 rfl hl (by decide) rfl (fun ls hl => ?_)
  refine lv_iload_n hx hy dX3_stateAt_11 rfl (lv_at hl 0 rfl) ?_
  refine lv_if_lt (tgt := 24) hx hy dX3_stateAt_12 (by decide) (fun h4 => ?_) (fun h4 => ?_)
  · have h4 : (o + a) % 4 < 0 := (nI_ltI (a := (o + a) % 4) (b := 0) (by omega) (by omega)).mp h4
    exact absurd h4 (by omega)
  · have h4 : 0 ≤ (o + a) % 4 := Nat.le_of_not_lt (fun q9 => h4 ((nI_ltI (a := (o + a) % 4) (b := 0) (by omega) (by omega)).mpr q9))
    refine lv_iload_n hx hy dX3_stateAt_15 rfl (lv_at hl 0 rfl) ?_
    refine lv_aload_n hx hy dX3_stateAt_16 rfl (lv_at hl 1 rfl) ?_
    refine gX3_states F hI L_X3_11 dX3_stateAt_17 ?_
    refine aSn F hI dX3_stateAt_20 ?_
    refine lv_icmp_lt (tgt := 28) hx hy dX3_stateAt_21 (by decide) (fun h5 => ?_) (fun h5 => ?_)
    · have h5 : (o + a) % 4 < 4 := (nI_ltI (a := (o + a) % 4) (b := 4) (by omega) (by omega)).mp h5
      refine lv_aload_n hx hy dX3_stateAt_28 rfl (lv_at hl 1 rfl) ?_
      refine gX3_states F hI L_X3_11 dX3_stateAt_29 ?_
      refine lv_iload_n hx hy dX3_stateAt_32 rfl (lv_at hl 0 rfl) ?_
      refine aSl F hI (i := (o + a) % 4) (by omega) dX3_stateAt_33 ?_
      exact rQ hQ F (v := ()) hI dX3_stateAt_34 (congrArg some (congrArg (eA E) (by omega)))
    · have h5 : 4 ≤ (o + a) % 4 := Nat.le_of_not_lt (fun q9 => h5 ((nI_ltI (a := (o + a) % 4) (b := 4) (by omega) (by omega)).mpr q9))
      exact absurd h5 (by omega)
set_option maxHeartbeats 400000 in
set_option maxRecDepth 100000 in
theorem kX3_push (l : Launch) (E : EV) (u : SS) {o z n : Nat} (ho : u.1 0 1 = nI o) (ho4 : o < 4) (hz : u.1 0 2 = nI z) (hz4 : z ≤ 4) (hn : u.1 2 0 = nI n) (h16 : n ≤ 16) : CT l yX3_push cX3_push 3 none (Rm 5 112) [.ref (eA E 1), .ref (eA E (10 + 3 * 0))] E u (Q_v E (fun c => PushP o z u.1 c) (fun (c : CF) => (c, u.2))) := by
  refine mstart RX3 (by decide +kernel) rfl (Nat.le_of_ble_eq_true rfl) ?_
  intro p e s m args below meth co ls Q hQ F hI hl
  have hx := F.1
  have hy := F.2.1
  have hl : lv_has ls 3 [(0, .ref (eA E 1)), (1, .ref (eA E (10 + 3 * 0)))] := hl
  refine lv_aload_n hx hy dX3_push_0 rfl (lv_at hl 0 rfl) ?_
  refine lv_aload_n hx hy dX3_push_1 rfl (lv_at hl 0 rfl) ?_
  refine gX3_size F hI L_X3_21 dX3_push_2 ?_
  refine tI hz ?_
  refine zQ hI (xV F hI hl (kX3_stateAt l E (u) z ho (by omega) (by omega)) M_X3_25 (rX3 F hI) rfl ⟨Nat.le_of_ble_eq_true rfl, Nat.le_of_ble_eq_true rfl⟩ ⟨Nat.zero_le _, Nat.zero_le _⟩ rfl (Nat.le_of_ble_eq_true rfl) dX3_push_5) (fun r2 v3 H locs hI hp1 => ?_)
  subst hp1
  refine tV (show va_rf (some (eA E (10 + 3 * (3 + (o + z) % 4)))) = .ref (eA E (10 + 3 * (3 + (o + z) % 4))) from rfl) ?_
  refine lv_astore_n (lv' := [(2, .ref (eA E (10 + 3 * (3 + (o + z) % 4)))), (0, .ref (eA E 1)), (1, .ref (eA E (10 + 3 * 0)))]) hx hy dX3_push_8 rfl hl (by decide) rfl (fun ls hl => ?_)
  refine lv_aload_n hx hy dX3_push_9 rfl (lv_at hl 0 rfl) ?_
  refine lv_ifnonnull (tgt := 14) hx hy dX3_push_10 (by decide) ?_
  refine lv_aload_n hx hy dX3_push_14 rfl (lv_at hl 0 rfl) ?_
  refine lv_aload_n hx hy dX3_push_15 rfl (lv_at hl 2 rfl) ?_
  refine zV hI (xV F hI hl (kX0_copyFrom l E (u) (b := (3 + (o + z) % 4)) (b2 := 0) (n := n) (by omega) (by decide) (by omega) hn (by omega)) M_X3_29 (rX0 F hI (b := (3 + (o + z) % 4)) (by omega)) rfl ⟨Nat.le_of_ble_eq_true rfl, Nat.le_of_ble_eq_true rfl⟩ ⟨Nat.zero_le _, Nat.zero_le _⟩ rfl (Nat.le_of_ble_eq_true rfl) dX3_push_16) (fun v6 H locs hI hp4 => ?_)
  have kf7 : v6 0 1 = nI o := (hp4.z 1).trans ho
  have kf8 : v6 0 2 = nI z := (hp4.z 2).trans hz
  refine lv_aload_n hx hy dX3_push_19 rfl (lv_at hl 1 rfl) ?_
  refine gX3_size F hI L_X3_21 dX3_push_20 ?_
  refine tI (show _ = v6 0 2 from rfl) ?_
  refine tI kf8 ?_
  refine lv_iconst (v := nI 4) hx hy dX3_push_23 (by decide) ?_
  refine lv_icmp_ge (tgt := 40) hx hy dX3_push_24 (by decide) (fun h9 => ?_) (fun h9 => ?_)
  · have h9 : 4 ≤ z := (nI_leI (a := 4) (b := z) (by omega) (by omega)).mp h9
    refine lv_aload_n hx hy dX3_push_40 rfl (lv_at hl 1 rfl) ?_
    refine lv_aload_n hx hy dX3_push_41 rfl (lv_at hl 1 rfl) ?_
    refine gX3_oldest F hI L_X3_17 dX3_push_42 ?_
    refine tI (show _ = v6 0 1 from rfl) ?_
    refine tI kf7 ?_
    refine lv_iconst (v := nI 1) hx hy dX3_push_45 (by decide) ?_
    refine lv_iadd hx hy dX3_push_46 ?_
    refine tI (nI_add (o) (1)) ?_
    refine lv_iconst (v := nI 4) hx hy dX3_push_47 (by decide) ?_
    refine lv_irem hx hy dX3_push_48 (fun q => absurd ((nI_eq (by omega) (by omega)).mp (show nI (4) = nI 0 from q)) (by omega)) ?_
    refine tI (pk_rem (a := o + 1) (d := 4) (by omega) (by omega) (by omega)) ?_
    refine pX3_oldest F hI L_X3_17 dX3_push_49 (fun H locs hI => ?_)
    obtain ⟨c10, ec10⟩ : ∃ z9 : CF, z9 = up v6 0 1 (nI ((o + 1) % 4)) := ⟨_, rfl⟩
    have hI : Iv E s H locs (c10, u.2) := by rw [ec10]; exact hI
    exact rV hQ F (v := c10) hI dX3_push_52 ⟨_, hp4, by rw [if_neg (by omega)]; exact ec10⟩
  · have h9 : z < 4 := Nat.lt_of_not_le (fun q9 => h9 ((nI_leI (a := 4) (b := z) (by omega) (by omega)).mpr q9))
    refine lv_aload_n hx hy dX3_push_27 rfl (lv_at hl 1 rfl) ?_
    refine lv_dup hx hy dX3_push_28 rfl ?_
    refine gX3_size F hI L_X3_21 dX3_push_29 ?_
    refine tI (show _ = v6 0 2 from rfl) ?_
    refine tI kf8 ?_
    refine lv_iconst (v := nI 1) hx hy dX3_push_32 (by decide) ?_
    refine lv_iadd hx hy dX3_push_33 ?_
    refine tI (nI_add (z) (1)) ?_
    refine pX3_size F hI L_X3_21 dX3_push_34 (fun H locs hI => ?_)
    obtain ⟨c11, ec11⟩ : ∃ z9 : CF, z9 = up v6 0 2 (nI (z + 1)) := ⟨_, rfl⟩
    have hI : Iv E s H locs (c11, u.2) := by rw [ec11]; exact hI
    refine lv_goto (tgt := 52) hx hy dX3_push_37 (by decide) ?_
    exact rV hQ F (v := c11) hI dX3_push_52 ⟨_, hp4, by rw [if_pos h9]; exact ec11⟩
