set_option maxHeartbeats 400000 in
set_option maxRecDepth 100000 in
theorem kX4_nextRegister (l : Launch) (E : EV) (u : SS) (r : Nat) (hr : r < 256) : CT l yX4_nextRegister cX4_nextRegister 2 (some .int) (Rm 0 0) [.int (nI r)] E u (Q_i E (fun z _ => z = nI (nr r)) (fun (_ : Unit) => u)) := by
  refine mstart RX4 (by decide +kernel) rfl (Nat.le_of_ble_eq_true rfl) ?_
  intro p e s m args below meth co ls Q hQ F hI hl
  have hx := F.1
  have hy := F.2.1
  have hl : lv_has ls 2 [(0, .int (nI r))] := hl
  refine lv_iload_n hx hy dX4_nextRegister_0 rfl (lv_at hl 0 rfl) ?_
  refine lv_iconst (v := nI 2) hx hy dX4_nextRegister_1 (by decide) ?_
  refine lv_imul hx hy dX4_nextRegister_2 ?_
  refine tI (pk_mul (r) (2)) ?_
  refine lv_istore_n (lv' := [(1, .int (nI (r * 2))), (0, .int (nI r))]) hx hy dX4_nextRegister_3 rfl hl (by decide) rfl (fun ls hl => ?_)
  refine lv_iload_n hx hy dX4_nextRegister_4 rfl (lv_at hl 0 rfl) ?_
  refine lv_sipush (v := nI 256) hx hy dX4_nextRegister_5 (by decide) ?_
  refine lv_icmp_ge (tgt := 15) hx hy dX4_nextRegister_8 (by decide) (fun h1 => ?_) (fun h1 => ?_)
  · have h1 : 256 ≤ r * 2 := (nI_leI (a := 256) (b := r * 2) (by omega) (by omega)).mp h1
    refine lv_iload_n hx hy dX4_nextRegister_15 rfl (lv_at hl 0 rfl) ?_
    refine lv_sipush (v := nI 256) hx hy dX4_nextRegister_16 (by decide) ?_
    refine lv_isub hx hy dX4_nextRegister_19 ?_
    refine tI (pk_sub (a := r * 2) (b := 256) (by omega)) ?_
    refine lv_bipush (v := nI 29) hx hy dX4_nextRegister_20 (by decide) ?_
    refine lv_ixor hx hy dX4_nextRegister_22 ?_
    exact rI hQ F (v := ()) hI dX4_nextRegister_23 (by unfold nr; rw [if_neg (by omega), nI_xor, Nat.mul_comm r 2])
  · have h1 : r * 2 < 256 := Nat.lt_of_not_le (fun q9 => h1 ((nI_leI (a := 256) (b := r * 2) (by omega) (by omega)).mpr q9))
    refine lv_iload_n hx hy dX4_nextRegister_11 rfl (lv_at hl 0 rfl) ?_
    refine lv_goto (tgt := 23) hx hy dX4_nextRegister_12 (by decide) ?_
    exact rI hQ F (v := ()) hI dX4_nextRegister_23 (by unfold nr; rw [if_pos (by omega), Nat.mul_comm r 2])
set_option maxHeartbeats 400000 in
set_option maxRecDepth 100000 in
theorem kX4_wordAt (l : Launch) (E : EV) (u : SS) (i : Nat) (hi : i < 2 ^ 31) (x : Int32) : CT l yX4_wordAt cX4_wordAt 4 (some .long) (Rm 0 0) [.ref (eA E 9), .int (nI i), .int (x)] E u (Q_l E (fun z _ => z = wdE u.2 i x) (fun (_ : Unit) => u)) := by
  refine mstart RX4 (by decide +kernel) rfl (Nat.le_of_ble_eq_true rfl) ?_
  intro p e s m args below meth co ls Q hQ F hI hl
  have hx := F.1
  have hy := F.2.1
  have hl : lv_has ls 4 [(0, .ref (eA E 9)), (1, .int (nI i)), (2, .int (x))] := hl
  refine lv_iload_n hx hy dX4_wordAt_0 rfl (lv_at hl 1 rfl) ?_
  refine lv_if_lt (tgt := 13) hx hy dX4_wordAt_1 (by decide) (fun h1 => ?_) (fun h1 => ?_)
  · have h1 : i < 0 := (nI_ltI (a := i) (b := 0) (by omega) (by omega)).mp h1
    exact absurd h1 (by omega)
  · have h1 : 0 ≤ i := Nat.le_of_not_lt (fun q9 => h1 ((nI_ltI (a := i) (b := 0) (by omega) (by omega)).mpr q9))
    refine lv_iload_n hx hy dX4_wordAt_4 rfl (lv_at hl 1 rfl) ?_
    refine lv_aload_n hx hy dX4_wordAt_5 rfl (lv_at hl 0 rfl) ?_
    refine gX4_rows F hI L_X4_11 dX4_wordAt_6 ?_
    refine aRn F hI dX4_wordAt_9 ?_
    refine lv_icmp_lt (tgt := 15) hx hy dX4_wordAt_10 (by decide) (fun h2 => ?_) (fun h2 => ?_)
    · have h2 : i < 16 := (nI_ltI (a := i) (b := 16) (by omega) (by omega)).mp h2
      refine lv_aload_n hx hy dX4_wordAt_15 rfl (lv_at hl 0 rfl) ?_
      refine gX4_rows F hI L_X4_11 dX4_wordAt_16 ?_
      refine lv_iload_n hx hy dX4_wordAt_19 rfl (lv_at hl 1 rfl) ?_
      refine aRl F hI (i := i) (by omega) dX4_wordAt_20 ?_
      refine lv_astore_n (lv' := [(3, .ref (eA E (32 + (i)))), (0, .ref (eA E 9)), (1, .int (nI i)), (2, .int (x))]) hx hy dX4_wordAt_21 rfl hl (by decide) rfl (fun ls hl => ?_)
      refine lv_iload_n hx hy dX4_wordAt_22 rfl (lv_at hl 3 rfl) ?_
      refine lv_if_lt (tgt := 32) hx hy dX4_wordAt_23 (by decide) (fun h3 => ?_) (fun h3 => ?_)
      · refine lv_lconst (v := lN 0) hx hy dX4_wordAt_32 (by decide) ?_
        refine lv_goto (tgt := 39) hx hy dX4_wordAt_33 (by decide) ?_
        exact rL hQ F (v := ()) hI dX4_wordAt_39 (by unfold wdE; rw [if_pos (by omega), if_pos (Or.inl h3)])
      · refine lv_iload_n hx hy dX4_wordAt_26 rfl (lv_at hl 3 rfl) ?_
        refine lv_aload_n hx hy dX4_wordAt_27 rfl (lv_at hl 0 rfl) ?_
        refine aLn F hI (iRow (b := i) (by omega)) dX4_wordAt_28 ?_
        refine lv_icmp_lt (tgt := 36) hx hy dX4_wordAt_29 (by decide) (fun h4 => ?_) (fun h4 => ?_)
        · obtain ⟨jj, hj, ex⟩ : ∃ j : Nat, j < 16 ∧ x = nI j := vp_in_of (vp_lt h3 h4 (by decide)) (by decide)
          have hl : lv_has ls 4 [(3, .ref (eA E (32 + (i)))), (0, .ref (eA E 9)), (1, .int (nI i)), (2, .int (nI jj))] := by rw [ex] at hl; exact hl
          refine lv_aload_n hx hy dX4_wordAt_36 rfl (lv_at hl 0 rfl) ?_
          refine lv_iload_n hx hy dX4_wordAt_37 rfl (lv_at hl 3 rfl) ?_
          refine aLlN F hI (iRow (b := i) (by omega)) (i := jj) (by omega) dX4_wordAt_38 ?_
          exact rL hQ F (v := ()) hI dX4_wordAt_39 (by rw [ex]; exact (wdE_in (by omega) hj).symm)
        · refine lv_lconst (v := lN 0) hx hy dX4_wordAt_32 (by decide) ?_
          refine lv_goto (tgt := 39) hx hy dX4_wordAt_33 (by decide) ?_
          exact rL hQ F (v := ()) hI dX4_wordAt_39 (by unfold wdE; rw [if_pos (by omega), if_pos (Or.inr (nlt_le h4))])
    · have h2 : 16 ≤ i := Nat.le_of_not_lt (fun q9 => h2 ((nI_ltI (a := i) (b := 16) (by omega) (by omega)).mpr q9))
      refine lv_lconst (v := lN 0) hx hy dX4_wordAt_13 (by decide) ?_
      exact rL hQ F (v := ()) hI dX4_wordAt_14 (by unfold wdE; rw [if_neg (by omega)])
set_option maxHeartbeats 400000 in
set_option maxRecDepth 100000 in
theorem kX4_setWord (l : Launch) (E : EV) (u : SS) (i v : Nat) (hi : i < 16) (hv : v < 16) (x : Int64) : CT l yX4_setWord cX4_setWord 6 none (Rm 0 0) [.ref (eA E 9), .int (nI i), .int (nI v), .long (x)] E u (Q_v E (fun z => z = upG u.2 i v x) (fun (z : GF) => (u.1, z))) := by
  refine mstart RX4 (by decide +kernel) rfl (Nat.le_of_ble_eq_true rfl) ?_
  intro p e s m args below meth co ls Q hQ F hI hl
  have hx := F.1
  have hy := F.2.1
  have hl : lv_has ls 6 [(0, .ref (eA E 9)), (1, .int (nI i)), (2, .int (nI v)), (3, .long (x))] := hl
  refine lv_iload_n hx hy dX4_setWord_0 rfl (lv_at hl 1 rfl) ?_
  refine lv_if_lt (tgt := 13) hx hy dX4_setWord_1 (by decide) (fun h1 => ?_) (fun h1 => ?_)
  · have h1 : i < 0 := (nI_ltI (a := i) (b := 0) (by omega) (by omega)).mp h1
    exact absurd h1 (by omega)
  · have h1 : 0 ≤ i := Nat.le_of_not_lt (fun q9 => h1 ((nI_ltI (a := i) (b := 0) (by omega) (by omega)).mpr q9))
    refine lv_iload_n hx hy dX4_setWord_4 rfl (lv_at hl 1 rfl) ?_
    refine lv_aload_n hx hy dX4_setWord_5 rfl (lv_at hl 0 rfl) ?_
    refine gX4_rows F hI L_X4_11 dX4_setWord_6 ?_
    refine aRn F hI dX4_setWord_9 ?_
    refine lv_icmp_lt (tgt := 14) hx hy dX4_setWord_10 (by decide) (fun h2 => ?_) (fun h2 => ?_)
    · have h2 : i < 16 := (nI_ltI (a := i) (b := 16) (by omega) (by omega)).mp h2
      refine lv_aload_n hx hy dX4_setWord_14 rfl (lv_at hl 0 rfl) ?_
      refine gX4_rows F hI L_X4_11 dX4_setWord_15 ?_
      refine lv_iload_n hx hy dX4_setWord_18 rfl (lv_at hl 1 rfl) ?_
      refine aRl F hI (i := i) (by omega) dX4_setWord_19 ?_
      refine lv_astore (lv' := [(5, .ref (eA E (32 + (i)))), (0, .ref (eA E 9)), (1, .int (nI i)), (2, .int (nI v)), (3, .long (x))]) hx hy dX4_setWord_20 hl (by decide) rfl (fun ls hl => ?_)
      refine lv_iload_n hx hy dX4_setWord_22 rfl (lv_at hl 3 rfl) ?_
      refine lv_if_lt (tgt := 38) hx hy dX4_setWord_23 (by decide) (fun h3 => ?_) (fun h3 => ?_)
      · have h3 : v < 0 := (nI_ltI (a := v) (b := 0) (by omega) (by omega)).mp h3
        exact absurd h3 (by omega)
      · have h3 : 0 ≤ v := Nat.le_of_not_lt (fun q9 => h3 ((nI_ltI (a := v) (b := 0) (by omega) (by omega)).mpr q9))
        refine lv_iload_n hx hy dX4_setWord_26 rfl (lv_at hl 3 rfl) ?_
        refine lv_aload hx hy dX4_setWord_27 (lv_at hl 0 rfl) ?_
        refine aLn F hI (iRow (b := i) (by omega)) dX4_setWord_29 ?_
        refine lv_icmp_ge (tgt := 38) hx hy dX4_setWord_30 (by decide) (fun h4 => ?_) (fun h4 => ?_)
        · have h4 : 16 ≤ v := (nI_leI (a := 16) (b := v) (by omega) (by omega)).mp h4
          exact absurd h4 (by omega)
        · have h4 : v < 16 := Nat.lt_of_not_le (fun q9 => h4 ((nI_leI (a := 16) (b := v) (by omega) (by omega)).mpr q9))
          refine lv_aload hx hy dX4_setWord_33 (lv_at hl 0 rfl) ?_
          refine lv_iload_n hx hy dX4_setWord_35 rfl (lv_at hl 3 rfl) ?_
          refine lv_lload_n hx hy dX4_setWord_36 rfl (lv_at hl 4 rfl) ?_
          refine aLsN F hI (iRow (b := i) (by omega)) (i := v) (by omega) dX4_setWord_37 (fun H locs hI => ?_)
          obtain ⟨g5, eg5⟩ : ∃ z9 : GF, z9 = upG u.2 (i) (v) (x) := ⟨_, rfl⟩
          have hI : Iv E s H locs (u.1, g5) := by rw [eg5]; exact hI
          exact rV hQ F (v := g5) hI dX4_setWord_38 (by rw [eg5])
    · have h2 : 16 ≤ i := Nat.le_of_not_lt (fun q9 => h2 ((nI_ltI (a := i) (b := 16) (by omega) (by omega)).mpr q9))
      exact absurd h2 (by omega)
