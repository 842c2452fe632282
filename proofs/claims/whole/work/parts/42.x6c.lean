set_option maxHeartbeats 400000 in
set_option maxRecDepth 100000 in
theorem kX6_bitAt (l : Launch) (E : EV) (u : SS) (j t : Nat) (hj : j < 16) (ht : t < 1000) : CT l yX6_bitAt cX6_bitAt 3 (some .int) (Rm 0 0) [.ref (eA E 48), .int (nI j), .int (nI t)] E u (Q_i E (fun r _ => r = u.1 45 (1000 * j + t)) (fun (_ : Unit) => u)) := by
  refine mstart RX6 (by decide +kernel) rfl (Nat.le_of_ble_eq_true rfl) ?_
  intro p e s m args below meth co ls Q hQ F hI hl
  have hx := F.1
  have hy := F.2.1
  have hl : lv_has ls 3 [(0, .ref (eA E 48)), (1, .int (nI j)), (2, .int (nI t))] := hl
  refine lv_aload_n hx hy dX6_bitAt_0 rfl (lv_at hl 0 rfl) ?_
  refine gX6_bits F hI L_X6_26 dX6_bitAt_1 ?_
  refine lv_sipush (v := nI 1000) hx hy dX6_bitAt_4 (by decide) ?_
  refine lv_iload_n hx hy dX6_bitAt_7 rfl (lv_at hl 1 rfl) ?_
  refine lv_imul hx hy dX6_bitAt_8 ?_
  refine tI (pk_mul (1000) (j)) ?_
  refine lv_iload_n hx hy dX6_bitAt_9 rfl (lv_at hl 2 rfl) ?_
  refine lv_iadd hx hy dX6_bitAt_10 ?_
  refine tI (nI_add (1000 * j) (t)) ?_
  refine aIlN F hI iX6_bits (i := 1000 * j + t) (by omega) (by decide) dX6_bitAt_11 ?_
  exact rI hQ F (v := ()) hI dX6_bitAt_12 rfl
set_option maxHeartbeats 400000 in
set_option maxRecDepth 100000 in
theorem kX6_goesOn (l : Launch) (E : EV) (u : SS) (r : Nat) (hr : r < 256) : CT l yX6_goesOn cX6_goesOn 2 (some .int) (Rm 0 0) [.int (nI r)] E u (Q_i E (fun x _ => x = nI (nr r)) (fun (_ : Unit) => u)) := by
  refine mstart RX6 (by decide +kernel) rfl (Nat.le_of_ble_eq_true rfl) ?_
  intro p e s m args below meth co ls Q hQ F hI hl
  have hx := F.1
  have hy := F.2.1
  have hl : lv_has ls 2 [(0, .int (nI r))] := hl
  refine lv_iconst (v := nI 2) hx hy dX6_goesOn_0 (by decide) ?_
  refine lv_iload_n hx hy dX6_goesOn_1 rfl (lv_at hl 0 rfl) ?_
  refine lv_imul hx hy dX6_goesOn_2 ?_
  refine tI (pk_mul (2) (r)) ?_
  refine lv_istore_n (lv' := [(1, .int (nI (2 * r))), (0, .int (nI r))]) hx hy dX6_goesOn_3 rfl hl (by decide) rfl (fun ls hl => ?_)
  refine lv_iload_n hx hy dX6_goesOn_4 rfl (lv_at hl 0 rfl) ?_
  refine lv_sipush (v := nI 255) hx hy dX6_goesOn_5 (by decide) ?_
  refine lv_icmp_le (tgt := 22) hx hy dX6_goesOn_8 (by decide) (fun h1 => ?_) (fun h1 => ?_)
  · have h1 : 2 * r ≤ 255 := (nI_leI (a := 2 * r) (b := 255) (by omega) (by omega)).mp h1
    refine lv_iload_n hx hy dX6_goesOn_22 rfl (lv_at hl 0 rfl) ?_
    exact rI hQ F (v := ()) hI dX6_goesOn_23 (by unfold nr; rw [if_pos (by omega)])
  · have h1 : 255 < 2 * r := Nat.lt_of_not_le (fun q9 => h1 ((nI_leI (a := 2 * r) (b := 255) (by omega) (by omega)).mpr q9))
    refine lv_iload_n hx hy dX6_goesOn_11 rfl (lv_at hl 0 rfl) ?_
    refine lv_sipush (v := nI 256) hx hy dX6_goesOn_12 (by decide) ?_
    refine lv_isub hx hy dX6_goesOn_15 ?_
    refine tI (pk_sub (a := 2 * r) (b := 256) (by omega)) ?_
    refine lv_bipush (v := nI 29) hx hy dX6_goesOn_16 (by decide) ?_
    refine lv_ixor hx hy dX6_goesOn_18 ?_
    refine lv_goto (tgt := 23) hx hy dX6_goesOn_19 (by decide) ?_
    exact rI hQ F (v := ()) hI dX6_goesOn_23 (by unfold nr; rw [if_neg (by omega), ← nI_xor])
set_option maxHeartbeats 400000 in
set_option maxRecDepth 100000 in
theorem kX6_bitOf (l : Launch) (E : EV) (u : SS) {z : Sg} (hA : RowM u.1 41 0 z) (hz : SgOk z) (j t : Nat) (hj : j < z.1) (ht : t < 1000) (hW : ∀ a, a < j → ∀ s, s < t + 1 → u.1 45 (1000 * a + s) = nI (bN (bt z.2.2 a s))) (hRg : (z.2.2 j).1 = 0 → u.1 46 j = nI (reg (z.2.2 j).2.2.1 t)) : CT l yX6_bitOf cX6_bitOf 5 (some .int) (Rm 1 22) [.ref (eA E 48), .int (nI j), .int (nI t)] E u (Q_i E (fun r _ => r = nI (bN (bt z.2.2 j t))) (fun (_ : Unit) => u)) := by
  refine mstart RX6 (by decide +kernel) rfl (Nat.le_of_ble_eq_true rfl) ?_
  intro p e s m args below meth co ls Q hQ F hI hl
  have hx := F.1
  have hy := F.2.1
  have hl : lv_has ls 5 [(0, .ref (eA E 48)), (1, .int (nI j)), (2, .int (nI t))] := hl
  have hn16 := hz.1
  have hl1 := hz.2.1
  have hl2 := hz.2.2.1
  have hok := hz.2.2.2 j hj
  have hk6 := hok.1
  have hB9 := hok.2.2.2.2.2.2.1
  have hC9 := hok.2.2.2.2.2.2.2
  rcases (show (z.2.2 j).1 = 0 ∨ (z.2.2 j).1 = 1 ∨ (z.2.2 j).1 = 2 ∨ (z.2.2 j).1 = 3 ∨ (z.2.2 j).1 = 4 ∨ (z.2.2 j).1 = 5 ∨ (z.2.2 j).1 = 6 from by omega) with hk1 | hk1 | hk1 | hk1 | hk1 | hk1 | hk1
  · have h256 := (hok.2.1 hk1).1
    have h257 := (hok.2.1 hk1).2
    have hrl := reg_lt (z := (z.2.2 j).2.2.1) (by omega) t
    refine lv_aload_n hx hy dX6_bitOf_0 rfl (lv_at hl 0 rfl) ?_
    refine lv_iload_n hx hy dX6_bitOf_1 rfl (lv_at hl 1 rfl) ?_
    refine lv_iconst (v := nI 1) hx hy dX6_bitOf_2 (by decide) ?_
    refine zI hI (xV F hI hl (kX6_of l E (u) j 1 (by omega) (by omega)) M_X6_100 (rX6 F hI) rfl ⟨Nat.le_of_ble_eq_true rfl, Nat.le_of_ble_eq_true rfl⟩ ⟨Nat.zero_le _, Nat.zero_le _⟩ rfl (Nat.le_of_ble_eq_true rfl) dX6_bitOf_3) (fun r3 v4 H locs hI hp2 => ?_)
    subst hp2
    refine tI ((RowM.w1 hA hj).trans (wM_1 (by rw [hk1]; decide))) ?_
    refine lv_istore_n (lv' := [(3, .int (nI ((z.2.2 j).2.1))), (0, .ref (eA E 48)), (1, .int (nI j)), (2, .int (nI t))]) hx hy dX6_bitOf_6 rfl hl (by decide) rfl (fun ls hl => ?_)
    refine lv_aload_n hx hy dX6_bitOf_7 rfl (lv_at hl 1 rfl) ?_
    refine lv_iload_n hx hy dX6_bitOf_8 rfl (lv_at hl 2 rfl) ?_
    refine lv_iconst (v := nI 2) hx hy dX6_bitOf_9 (by decide) ?_
    refine zI hI (xV F hI hl (kX6_of l E (u) j 2 (by omega) (by omega)) M_X6_100 (rX6 F hI) rfl ⟨Nat.le_of_ble_eq_true rfl, Nat.le_of_ble_eq_true rfl⟩ ⟨Nat.zero_le _, Nat.zero_le _⟩ rfl (Nat.le_of_ble_eq_true rfl) dX6_bitOf_10) (fun r6 v7 H locs hI hp5 => ?_)
    subst hp5
    refine tI ((RowM.w2 hA hj).trans (wM_2 (by rw [hk1]; decide))) ?_
    refine lv_istore (lv' := [(4, .int (nI ((z.2.2 j).2.2.1))), (3, .int (nI ((z.2.2 j).2.1))), (0, .ref (eA E 48)), (1, .int (nI j)), (2, .int (nI t))]) hx hy dX6_bitOf_13 hl (by decide) rfl (fun ls hl => ?_)
    refine lv_aload_n hx hy dX6_bitOf_15 rfl (lv_at hl 2 rfl) ?_
    refine lv_iload_n hx hy dX6_bitOf_16 rfl (lv_at hl 3 rfl) ?_
    refine lv_iconst (v := nI 0) hx hy dX6_bitOf_17 (by decide) ?_
    refine zI hI (xV F hI hl (kX6_of l E (u) j 0 (by omega) (by omega)) M_X6_100 (rX6 F hI) rfl ⟨Nat.le_of_ble_eq_true rfl, Nat.le_of_ble_eq_true rfl⟩ ⟨Nat.zero_le _, Nat.zero_le _⟩ rfl (Nat.le_of_ble_eq_true rfl) dX6_bitOf_18) (fun r9 v10 H locs hI hp8 => ?_)
    subst hp8
    refine tI ((RowM.k hA hj).trans (congrArg nI hk1)) ?_
    refine lv_tableIn (tgt := 60) hx hy dX6_bitOf_21 (by decide) (by decide) (by rfl) (by decide) ?_
    refine lv_aload_n hx hy dX6_bitOf_60 rfl (lv_at hl 2 rfl) ?_
    refine gX6_register F hI L_X6_29 dX6_bitOf_61 ?_
    refine lv_iload_n hx hy dX6_bitOf_64 rfl (lv_at hl 3 rfl) ?_
    refine aIlN F hI iX6_register (i := j) (by omega) (by decide) dX6_bitOf_65 ?_
    refine tI (hRg hk1) ?_
    refine lv_iload_n hx hy dX6_bitOf_66 rfl (lv_at hl 1 rfl) ?_
    refine lv_icmp_gt (tgt := 74) hx hy dX6_bitOf_67 (by decide) (fun h11 => ?_) (fun h11 => ?_)
    · have h11 : (z.2.2 j).2.1 < reg (z.2.2 j).2.2.1 t := (nI_ltI (a := (z.2.2 j).2.1) (b := reg (z.2.2 j).2.2.1 t) (by omega) (by omega)).mp h11
      refine lv_iconst (v := nI 0) hx hy dX6_bitOf_74 (by decide) ?_
      exact rI hQ F (v := ()) hI dX6_bitOf_75 (by rw [bt_0 hok hk1, decide_eq_false (by omega)]; rfl)
    · have h11 : reg (z.2.2 j).2.2.1 t ≤ (z.2.2 j).2.1 := Nat.le_of_not_lt (fun q9 => h11 ((nI_ltI (a := (z.2.2 j).2.1) (b := reg (z.2.2 j).2.2.1 t) (by omega) (by omega)).mpr q9))
      refine lv_iconst (v := nI 1) hx hy dX6_bitOf_70 (by decide) ?_
      refine lv_goto (tgt := 75) hx hy dX6_bitOf_71 (by decide) ?_
      exact rI hQ F (v := ()) hI dX6_bitOf_75 (by rw [bt_0 hok hk1, decide_eq_true (by omega)]; rfl)
  · have hA1 := hok.2.2.1 (by omega)
    have hB1 := hok.2.2.2.1 (by omega) (by omega)
    refine lv_aload_n hx hy dX6_bitOf_0 rfl (lv_at hl 0 rfl) ?_
    refine lv_iload_n hx hy dX6_bitOf_1 rfl (lv_at hl 1 rfl) ?_
    refine lv_iconst (v := nI 1) hx hy dX6_bitOf_2 (by decide) ?_
    refine zI hI (xV F hI hl (kX6_of l E (u) j 1 (by omega) (by omega)) M_X6_100 (rX6 F hI) rfl ⟨Nat.le_of_ble_eq_true rfl, Nat.le_of_ble_eq_true rfl⟩ ⟨Nat.zero_le _, Nat.zero_le _⟩ rfl (Nat.le_of_ble_eq_true rfl) dX6_bitOf_3) (fun r13 v14 H locs hI hp12 => ?_)
    subst hp12
    refine tI ((RowM.w1 hA hj).trans (wM_1 (by rw [hk1]; decide))) ?_
    refine lv_istore_n (lv' := [(3, .int (nI ((z.2.2 j).2.1))), (0, .ref (eA E 48)), (1, .int (nI j)), (2, .int (nI t))]) hx hy dX6_bitOf_6 rfl hl (by decide) rfl (fun ls hl => ?_)
    refine lv_aload_n hx hy dX6_bitOf_7 rfl (lv_at hl 1 rfl) ?_
    refine lv_iload_n hx hy dX6_bitOf_8 rfl (lv_at hl 2 rfl) ?_
    refine lv_iconst (v := nI 2) hx hy dX6_bitOf_9 (by decide) ?_
    refine zI hI (xV F hI hl (kX6_of l E (u) j 2 (by omega) (by omega)) M_X6_100 (rX6 F hI) rfl ⟨Nat.le_of_ble_eq_true rfl, Nat.le_of_ble_eq_true rfl⟩ ⟨Nat.zero_le _, Nat.zero_le _⟩ rfl (Nat.le_of_ble_eq_true rfl) dX6_bitOf_10) (fun r16 v17 H locs hI hp15 => ?_)
    subst hp15
    refine tI ((RowM.w2 hA hj).trans (wM_2 (by rw [hk1]; decide))) ?_
    refine lv_istore (lv' := [(4, .int (nI ((z.2.2 j).2.2.1))), (3, .int (nI ((z.2.2 j).2.1))), (0, .ref (eA E 48)), (1, .int (nI j)), (2, .int (nI t))]) hx hy dX6_bitOf_13 hl (by decide) rfl (fun ls hl => ?_)
    refine lv_aload_n hx hy dX6_bitOf_15 rfl (lv_at hl 2 rfl) ?_
    refine lv_iload_n hx hy dX6_bitOf_16 rfl (lv_at hl 3 rfl) ?_
    refine lv_iconst (v := nI 0) hx hy dX6_bitOf_17 (by decide) ?_
    refine zI hI (xV F hI hl (kX6_of l E (u) j 0 (by omega) (by omega)) M_X6_100 (rX6 F hI) rfl ⟨Nat.le_of_ble_eq_true rfl, Nat.le_of_ble_eq_true rfl⟩ ⟨Nat.zero_le _, Nat.zero_le _⟩ rfl (Nat.le_of_ble_eq_true rfl) dX6_bitOf_18) (fun r19 v20 H locs hI hp18 => ?_)
    subst hp18
    refine tI ((RowM.k hA hj).trans (congrArg nI hk1)) ?_
    refine lv_tableIn (tgt := 76) hx hy dX6_bitOf_21 (by decide) (by decide) (by rfl) (by decide) ?_
    refine lv_aload_n hx hy dX6_bitOf_76 rfl (lv_at hl 2 rfl) ?_
    refine lv_iload_n hx hy dX6_bitOf_77 rfl (lv_at hl 1 rfl) ?_
    refine lv_iload_n hx hy dX6_bitOf_78 rfl (lv_at hl 4 rfl) ?_
    refine zI hI (xV F hI hl (kX6_bitAt l E (u) ((z.2.2 j).2.1) t (by omega) (by omega)) M_X6_107 (rX6 F hI) rfl ⟨Nat.le_of_ble_eq_true rfl, Nat.le_of_ble_eq_true rfl⟩ ⟨Nat.zero_le _, Nat.zero_le _⟩ rfl (Nat.le_of_ble_eq_true rfl) dX6_bitOf_79) (fun r22 v23 H locs hI hp21 => ?_)
    subst hp21
    refine tI (show _ = nI (bN (bt z.2.2 ((z.2.2 j).2.1) t)) from (hW ((z.2.2 j).2.1) (by omega) (t) (by omega))) ?_
    refine lv_aload_n hx hy dX6_bitOf_82 rfl (lv_at hl 2 rfl) ?_
    refine lv_iload hx hy dX6_bitOf_83 (lv_at hl 0 rfl) ?_
    refine lv_iload_n hx hy dX6_bitOf_85 rfl (lv_at hl 4 rfl) ?_
    refine zI hI (xV F hI hl (kX6_bitAt l E (u) ((z.2.2 j).2.2.1) t (by omega) (by omega)) M_X6_107 (rX6 F hI) rfl ⟨Nat.le_of_ble_eq_true rfl, Nat.le_of_ble_eq_true rfl⟩ ⟨Nat.zero_le _, Nat.zero_le _⟩ rfl (Nat.le_of_ble_eq_true rfl) dX6_bitOf_86) (fun r25 v26 H locs hI hp24 => ?_)
    subst hp24
    refine tI (show _ = nI (bN (bt z.2.2 ((z.2.2 j).2.2.1) t)) from (hW ((z.2.2 j).2.2.1) (by omega) (t) (by omega))) ?_
    refine lv_iand hx hy dX6_bitOf_89 ?_
    exact rI hQ F (v := ()) hI dX6_bitOf_90 (by rw [bt_1 hok hk1]; cases bt z.2.2 (z.2.2 j).2.1 t <;> cases bt z.2.2 (z.2.2 j).2.2.1 t <;> rfl)
  · have hA1 := hok.2.2.1 (by omega)
    have hB1 := hok.2.2.2.1 (by omega) (by omega)
    refine lv_aload_n hx hy dX6_bitOf_0 rfl (lv_at hl 0 rfl) ?_
    refine lv_iload_n hx hy dX6_bitOf_1 rfl (lv_at hl 1 rfl) ?_
    refine lv_iconst (v := nI 1) hx hy dX6_bitOf_2 (by decide) ?_
    refine zI hI (xV F hI hl (kX6_of l E (u) j 1 (by omega) (by omega)) M_X6_100 (rX6 F hI) rfl ⟨Nat.le_of_ble_eq_true rfl, Nat.le_of_ble_eq_true rfl⟩ ⟨Nat.zero_le _, Nat.zero_le _⟩ rfl (Nat.le_of_ble_eq_true rfl) dX6_bitOf_3) (fun r28 v29 H locs hI hp27 => ?_)
    subst hp27
    refine tI ((RowM.w1 hA hj).trans (wM_1 (by rw [hk1]; decide))) ?_
    refine lv_istore_n (lv' := [(3, .int (nI ((z.2.2 j).2.1))), (0, .ref (eA E 48)), (1, .int (nI j)), (2, .int (nI t))]) hx hy dX6_bitOf_6 rfl hl (by decide) rfl (fun ls hl => ?_)
    refine lv_aload_n hx hy dX6_bitOf_7 rfl (lv_at hl 1 rfl) ?_
    refine lv_iload_n hx hy dX6_bitOf_8 rfl (lv_at hl 2 rfl) ?_
    refine lv_iconst (v := nI 2) hx hy dX6_bitOf_9 (by decide) ?_
    refine zI hI (xV F hI hl (kX6_of l E (u) j 2 (by omega) (by omega)) M_X6_100 (rX6 F hI) rfl ⟨Nat.le_of_ble_eq_true rfl, Nat.le_of_ble_eq_true rfl⟩ ⟨Nat.zero_le _, Nat.zero_le _⟩ rfl (Nat.le_of_ble_eq_true rfl) dX6_bitOf_10) (fun r31 v32 H locs hI hp30 => ?_)
    subst hp30
    refine tI ((RowM.w2 hA hj).trans (wM_2 (by rw [hk1]; decide))) ?_
    refine lv_istore (lv' := [(4, .int (nI ((z.2.2 j).2.2.1))), (3, .int (nI ((z.2.2 j).2.1))), (0, .ref (eA E 48)), (1, .int (nI j)), (2, .int (nI t))]) hx hy dX6_bitOf_13 hl (by decide) rfl (fun ls hl => ?_)
    refine lv_aload_n hx hy dX6_bitOf_15 rfl (lv_at hl 2 rfl) ?_
    refine lv_iload_n hx hy dX6_bitOf_16 rfl (lv_at hl 3 rfl) ?_
    refine lv_iconst (v := nI 0) hx hy dX6_bitOf_17 (by decide) ?_
    refine zI hI (xV F hI hl (kX6_of l E (u) j 0 (by omega) (by omega)) M_X6_100 (rX6 F hI) rfl ⟨Nat.le_of_ble_eq_true rfl, Nat.le_of_ble_eq_true rfl⟩ ⟨Nat.zero_le _, Nat.zero_le _⟩ rfl (Nat.le_of_ble_eq_true rfl) dX6_bitOf_18) (fun r34 v35 H locs hI hp33 => ?_)
    subst hp33
    refine tI ((RowM.k hA hj).trans (congrArg nI hk1)) ?_
    refine lv_tableIn (tgt := 91) hx hy dX6_bitOf_21 (by decide) (by decide) (by rfl) (by decide) ?_
    refine lv_aload_n hx hy dX6_bitOf_91 rfl (lv_at hl 2 rfl) ?_
    refine lv_iload_n hx hy dX6_bitOf_92 rfl (lv_at hl 1 rfl) ?_
    refine lv_iload_n hx hy dX6_bitOf_93 rfl (lv_at hl 4 rfl) ?_
    refine zI hI (xV F hI hl (kX6_bitAt l E (u) ((z.2.2 j).2.1) t (by omega) (by omega)) M_X6_107 (rX6 F hI) rfl ⟨Nat.le_of_ble_eq_true rfl, Nat.le_of_ble_eq_true rfl⟩ ⟨Nat.zero_le _, Nat.zero_le _⟩ rfl (Nat.le_of_ble_eq_true rfl) dX6_bitOf_94) (fun r37 v38 H locs hI hp36 => ?_)
    subst hp36
    refine tI (show _ = nI (bN (bt z.2.2 ((z.2.2 j).2.1) t)) from (hW ((z.2.2 j).2.1) (by omega) (t) (by omega))) ?_
    refine lv_aload_n hx hy dX6_bitOf_97 rfl (lv_at hl 2 rfl) ?_
    refine lv_iload hx hy dX6_bitOf_98 (lv_at hl 0 rfl) ?_
    refine lv_iload_n hx hy dX6_bitOf_100 rfl (lv_at hl 4 rfl) ?_
    refine zI hI (xV F hI hl (kX6_bitAt l E (u) ((z.2.2 j).2.2.1) t (by omega) (by omega)) M_X6_107 (rX6 F hI) rfl ⟨Nat.le_of_ble_eq_true rfl, Nat.le_of_ble_eq_true rfl⟩ ⟨Nat.zero_le _, Nat.zero_le _⟩ rfl (Nat.le_of_ble_eq_true rfl) dX6_bitOf_101) (fun r40 v41 H locs hI hp39 => ?_)
    subst hp39
    refine tI (show _ = nI (bN (bt z.2.2 ((z.2.2 j).2.2.1) t)) from (hW ((z.2.2 j).2.2.1) (by omega) (t) (by omega))) ?_
    refine lv_ior hx hy dX6_bitOf_104 ?_
    exact rI hQ F (v := ()) hI dX6_bitOf_105 (by rw [bt_2 hok hk1]; cases bt z.2.2 (z.2.2 j).2.1 t <;> cases bt z.2.2 (z.2.2 j).2.2.1 t <;> rfl)
  · have hA1 := hok.2.2.1 (by omega)
    have hB1 := hok.2.2.2.1 (by omega) (by omega)
    refine lv_aload_n hx hy dX6_bitOf_0 rfl (lv_at hl 0 rfl) ?_
    refine lv_iload_n hx hy dX6_bitOf_1 rfl (lv_at hl 1 rfl) ?_
    refine lv_iconst (v := nI 1) hx hy dX6_bitOf_2 (by decide) ?_
    refine zI hI (xV F hI hl (kX6_of l E (u) j 1 (by omega) (by omega)) M_X6_100 (rX6 F hI) rfl ⟨Nat.le_of_ble_eq_true rfl, Nat.le_of_ble_eq_true rfl⟩ ⟨Nat.zero_le _, Nat.zero_le _⟩ rfl (Nat.le_of_ble_eq_true rfl) dX6_bitOf_3) (fun r43 v44 H locs hI hp42 => ?_)
    subst hp42
    refine tI ((RowM.w1 hA hj).trans (wM_1 (by rw [hk1]; decide))) ?_
    refine lv_istore_n (lv' := [(3, .int (nI ((z.2.2 j).2.1))), (0, .ref (eA E 48)), (1, .int (nI j)), (2, .int (nI t))]) hx hy dX6_bitOf_6 rfl hl (by decide) rfl (fun ls hl => ?_)
    refine lv_aload_n hx hy dX6_bitOf_7 rfl (lv_at hl 1 rfl) ?_
    refine lv_iload_n hx hy dX6_bitOf_8 rfl (lv_at hl 2 rfl) ?_
    refine lv_iconst (v := nI 2) hx hy dX6_bitOf_9 (by decide) ?_
    refine zI hI (xV F hI hl (kX6_of l E (u) j 2 (by omega) (by omega)) M_X6_100 (rX6 F hI) rfl ⟨Nat.le_of_ble_eq_true rfl, Nat.le_of_ble_eq_true rfl⟩ ⟨Nat.zero_le _, Nat.zero_le _⟩ rfl (Nat.le_of_ble_eq_true rfl) dX6_bitOf_10) (fun r46 v47 H locs hI hp45 => ?_)
    subst hp45
    refine tI ((RowM.w2 hA hj).trans (wM_2 (by rw [hk1]; decide))) ?_
    refine lv_istore (lv' := [(4, .int (nI ((z.2.2 j).2.2.1))), (3, .int (nI ((z.2.2 j).2.1))), (0, .ref (eA E 48)), (1, .int (nI j)), (2, .int (nI t))]) hx hy dX6_bitOf_13 hl (by decide) rfl (fun ls hl => ?_)
    refine lv_aload_n hx hy dX6_bitOf_15 rfl (lv_at hl 2 rfl) ?_
    refine lv_iload_n hx hy dX6_bitOf_16 rfl (lv_at hl 3 rfl) ?_
    refine lv_iconst (v := nI 0) hx hy dX6_bitOf_17 (by decide) ?_
    refine zI hI (xV F hI hl (kX6_of l E (u) j 0 (by omega) (by omega)) M_X6_100 (rX6 F hI) rfl ⟨Nat.le_of_ble_eq_true rfl, Nat.le_of_ble_eq_true rfl⟩ ⟨Nat.zero_le _, Nat.zero_le _⟩ rfl (Nat.le_of_ble_eq_true rfl) dX6_bitOf_18) (fun r49 v50 H locs hI hp48 => ?_)
    subst hp48
    refine tI ((RowM.k hA hj).trans (congrArg nI hk1)) ?_
    refine lv_tableIn (tgt := 106) hx hy dX6_bitOf_21 (by decide) (by decide) (by rfl) (by decide) ?_
    refine lv_aload_n hx hy dX6_bitOf_106 rfl (lv_at hl 2 rfl) ?_
    refine lv_iload_n hx hy dX6_bitOf_107 rfl (lv_at hl 1 rfl) ?_
    refine lv_iload_n hx hy dX6_bitOf_108 rfl (lv_at hl 4 rfl) ?_
    refine zI hI (xV F hI hl (kX6_bitAt l E (u) ((z.2.2 j).2.1) t (by omega) (by omega)) M_X6_107 (rX6 F hI) rfl ⟨Nat.le_of_ble_eq_true rfl, Nat.le_of_ble_eq_true rfl⟩ ⟨Nat.zero_le _, Nat.zero_le _⟩ rfl (Nat.le_of_ble_eq_true rfl) dX6_bitOf_109) (fun r52 v53 H locs hI hp51 => ?_)
    subst hp51
    refine tI (show _ = nI (bN (bt z.2.2 ((z.2.2 j).2.1) t)) from (hW ((z.2.2 j).2.1) (by omega) (t) (by omega))) ?_
    refine lv_aload_n hx hy dX6_bitOf_112 rfl (lv_at hl 2 rfl) ?_
    refine lv_iload hx hy dX6_bitOf_113 (lv_at hl 0 rfl) ?_
    refine lv_iload_n hx hy dX6_bitOf_115 rfl (lv_at hl 4 rfl) ?_
    refine zI hI (xV F hI hl (kX6_bitAt l E (u) ((z.2.2 j).2.2.1) t (by omega) (by omega)) M_X6_107 (rX6 F hI) rfl ⟨Nat.le_of_ble_eq_true rfl, Nat.le_of_ble_eq_true rfl⟩ ⟨Nat.zero_le _, Nat.zero_le _⟩ rfl (Nat.le_of_ble_eq_true rfl) dX6_bitOf_116) (fun r55 v56 H locs hI hp54 => ?_)
    subst hp54
    refine tI (show _ = nI (bN (bt z.2.2 ((z.2.2 j).2.2.1) t)) from (hW ((z.2.2 j).2.2.1) (by omega) (t) (by omega))) ?_
    refine lv_ixor hx hy dX6_bitOf_119 ?_
    exact rI hQ F (v := ()) hI dX6_bitOf_120 (by rw [bt_3 hok hk1]; cases bt z.2.2 (z.2.2 j).2.1 t <;> cases bt z.2.2 (z.2.2 j).2.2.1 t <;> rfl)
  · have hA1 := hok.2.2.1 (by omega)
    have hB1 := hok.2.2.2.1 (by omega) (by omega)
    have hC1 := hok.2.2.2.2.1 hk1
    refine lv_aload_n hx hy dX6_bitOf_0 rfl (lv_at hl 0 rfl) ?_
    refine lv_iload_n hx hy dX6_bitOf_1 rfl (lv_at hl 1 rfl) ?_
    refine lv_iconst (v := nI 1) hx hy dX6_bitOf_2 (by decide) ?_
    refine zI hI (xV F hI hl (kX6_of l E (u) j 1 (by omega) (by omega)) M_X6_100 (rX6 F hI) rfl ⟨Nat.le_of_ble_eq_true rfl, Nat.le_of_ble_eq_true rfl⟩ ⟨Nat.zero_le _, Nat.zero_le _⟩ rfl (Nat.le_of_ble_eq_true rfl) dX6_bitOf_3) (fun r58 v59 H locs hI hp57 => ?_)
    subst hp57
    refine tI ((RowM.w1 hA hj).trans (wM_1 (by rw [hk1]; decide))) ?_
    refine lv_istore_n (lv' := [(3, .int (nI ((z.2.2 j).2.1))), (0, .ref (eA E 48)), (1, .int (nI j)), (2, .int (nI t))]) hx hy dX6_bitOf_6 rfl hl (by decide) rfl (fun ls hl => ?_)
    refine lv_aload_n hx hy dX6_bitOf_7 rfl (lv_at hl 1 rfl) ?_
    refine lv_iload_n hx hy dX6_bitOf_8 rfl (lv_at hl 2 rfl) ?_
    refine lv_iconst (v := nI 2) hx hy dX6_bitOf_9 (by decide) ?_
    refine zI hI (xV F hI hl (kX6_of l E (u) j 2 (by omega) (by omega)) M_X6_100 (rX6 F hI) rfl ⟨Nat.le_of_ble_eq_true rfl, Nat.le_of_ble_eq_true rfl⟩ ⟨Nat.zero_le _, Nat.zero_le _⟩ rfl (Nat.le_of_ble_eq_true rfl) dX6_bitOf_10) (fun r61 v62 H locs hI hp60 => ?_)
    subst hp60
    refine tI ((RowM.w2 hA hj).trans (wM_2 (by rw [hk1]; decide))) ?_
    refine lv_istore (lv' := [(4, .int (nI ((z.2.2 j).2.2.1))), (3, .int (nI ((z.2.2 j).2.1))), (0, .ref (eA E 48)), (1, .int (nI j)), (2, .int (nI t))]) hx hy dX6_bitOf_13 hl (by decide) rfl (fun ls hl => ?_)
    refine lv_aload_n hx hy dX6_bitOf_15 rfl (lv_at hl 2 rfl) ?_
    refine lv_iload_n hx hy dX6_bitOf_16 rfl (lv_at hl 3 rfl) ?_
    refine lv_iconst (v := nI 0) hx hy dX6_bitOf_17 (by decide) ?_
    refine zI hI (xV F hI hl (kX6_of l E (u) j 0 (by omega) (by omega)) M_X6_100 (rX6 F hI) rfl ⟨Nat.le_of_ble_eq_true rfl, Nat.le_of_ble_eq_true rfl⟩ ⟨Nat.zero_le _, Nat.zero_le _⟩ rfl (Nat.le_of_ble_eq_true rfl) dX6_bitOf_18) (fun r64 v65 H locs hI hp63 => ?_)
    subst hp63
    refine tI ((RowM.k hA hj).trans (congrArg nI hk1)) ?_
    refine lv_tableIn (tgt := 121) hx hy dX6_bitOf_21 (by decide) (by decide) (by rfl) (by decide) ?_
    refine lv_aload_n hx hy dX6_bitOf_121 rfl (lv_at hl 2 rfl) ?_
    refine lv_aload_n hx hy dX6_bitOf_122 rfl (lv_at hl 2 rfl) ?_
    refine lv_aload_n hx hy dX6_bitOf_123 rfl (lv_at hl 2 rfl) ?_
    refine lv_iload_n hx hy dX6_bitOf_124 rfl (lv_at hl 3 rfl) ?_
    refine lv_iconst (v := nI 3) hx hy dX6_bitOf_125 (by decide) ?_
    refine zI hI (xV F hI hl (kX6_of l E (u) j 3 (by omega) (by omega)) M_X6_100 (rX6 F hI) rfl ⟨Nat.le_of_ble_eq_true rfl, Nat.le_of_ble_eq_true rfl⟩ ⟨Nat.zero_le _, Nat.zero_le _⟩ rfl (Nat.le_of_ble_eq_true rfl) dX6_bitOf_126) (fun r67 v68 H locs hI hp66 => ?_)
    subst hp66
    refine tI ((RowM.w3 hA hj).trans (wM_3 (by rw [hk1]; decide))) ?_
    refine lv_iload_n hx hy dX6_bitOf_129 rfl (lv_at hl 4 rfl) ?_
    refine zI hI (xV F hI hl (kX6_bitAt l E (u) ((z.2.2 j).2.2.2) t (by omega) (by omega)) M_X6_107 (rX6 F hI) rfl ⟨Nat.le_of_ble_eq_true rfl, Nat.le_of_ble_eq_true rfl⟩ ⟨Nat.zero_le _, Nat.zero_le _⟩ rfl (Nat.le_of_ble_eq_true rfl) dX6_bitOf_130) (fun r70 v71 H locs hI hp69 => ?_)
    subst hp69
    refine tI (show _ = nI (bN (bt z.2.2 ((z.2.2 j).2.2.2) t)) from (hW ((z.2.2 j).2.2.2) (by omega) (t) (by omega))) ?_
    refine lv_iconst (v := nI 1) hx hy dX6_bitOf_133 (by decide) ?_
    refine lv_icmp_ne (tgt := 141) hx hy dX6_bitOf_134 (by decide) (fun h72 => ?_) (fun h72 => ?_)
    · have h72 : bN (bt z.2.2 ((z.2.2 j).2.2.2) t) ≠ 1 := fun q9 => h72 ((nI_eq (a := bN (bt z.2.2 ((z.2.2 j).2.2.2) t)) (b := 1) (by have := bN_le (bt z.2.2 (z.2.2 j).2.2.2 t); omega) (by omega)).mpr q9)
      refine lv_iload hx hy dX6_bitOf_141 (lv_at hl 0 rfl) ?_
      refine lv_iload_n hx hy dX6_bitOf_143 rfl (lv_at hl 4 rfl) ?_
      refine zI hI (xV F hI hl (kX6_bitAt l E (u) ((z.2.2 j).2.2.1) t (by omega) (by omega)) M_X6_107 (rX6 F hI) rfl ⟨Nat.le_of_ble_eq_true rfl, Nat.le_of_ble_eq_true rfl⟩ ⟨Nat.zero_le _, Nat.zero_le _⟩ rfl (Nat.le_of_ble_eq_true rfl) dX6_bitOf_144) (fun r74 v75 H locs hI hp73 => ?_)
      subst hp73
      refine tI (show _ = nI (bN (bt z.2.2 ((z.2.2 j).2.2.1) t)) from (hW ((z.2.2 j).2.2.1) (by omega) (t) (by omega))) ?_
      exact rI hQ F (v := ()) hI dX6_bitOf_147 (by rw [bt_4 hok hk1, if_neg]; have h9 := h72; cases h8 : bt z.2.2 (z.2.2 j).2.2.2 t <;> rw [h8] at h9 <;> first | rfl | (exact absurd h9 (by decide)) | simp)
    · have h72 : bN (bt z.2.2 ((z.2.2 j).2.2.2) t) = 1 := (nI_eq (a := bN (bt z.2.2 ((z.2.2 j).2.2.2) t)) (b := 1) (by have := bN_le (bt z.2.2 (z.2.2 j).2.2.2 t); omega) (by omega)).mp h72
      refine lv_iload_n hx hy dX6_bitOf_137 rfl (lv_at hl 1 rfl) ?_
      refine lv_goto (tgt := 143) hx hy dX6_bitOf_138 (by decide) ?_
      refine lv_iload_n hx hy dX6_bitOf_143 rfl (lv_at hl 4 rfl) ?_
      refine zI hI (xV F hI hl (kX6_bitAt l E (u) ((z.2.2 j).2.1) t (by omega) (by omega)) M_X6_107 (rX6 F hI) rfl ⟨Nat.le_of_ble_eq_true rfl, Nat.le_of_ble_eq_true rfl⟩ ⟨Nat.zero_le _, Nat.zero_le _⟩ rfl (Nat.le_of_ble_eq_true rfl) dX6_bitOf_144) (fun r77 v78 H locs hI hp76 => ?_)
      subst hp76
      refine tI (show _ = nI (bN (bt z.2.2 ((z.2.2 j).2.1) t)) from (hW ((z.2.2 j).2.1) (by omega) (t) (by omega))) ?_
      exact rI hQ F (v := ()) hI dX6_bitOf_147 (by rw [bt_4 hok hk1, if_pos]; have h9 := h72; cases h8 : bt z.2.2 (z.2.2 j).2.2.2 t <;> rw [h8] at h9 <;> first | rfl | (exact absurd h9 (by decide)) | simp)
  · have hA1 := hok.2.2.1 (by omega)
    refine lv_aload_n hx hy dX6_bitOf_0 rfl (lv_at hl 0 rfl) ?_
    refine lv_iload_n hx hy dX6_bitOf_1 rfl (lv_at hl 1 rfl) ?_
    refine lv_iconst (v := nI 1) hx hy dX6_bitOf_2 (by decide) ?_
    refine zI hI (xV F hI hl (kX6_of l E (u) j 1 (by omega) (by omega)) M_X6_100 (rX6 F hI) rfl ⟨Nat.le_of_ble_eq_true rfl, Nat.le_of_ble_eq_true rfl⟩ ⟨Nat.zero_le _, Nat.zero_le _⟩ rfl (Nat.le_of_ble_eq_true rfl) dX6_bitOf_3) (fun r80 v81 H locs hI hp79 => ?_)
    subst hp79
    refine tI ((RowM.w1 hA hj).trans (wM_1 (by rw [hk1]; decide))) ?_
    refine lv_istore_n (lv' := [(3, .int (nI ((z.2.2 j).2.1))), (0, .ref (eA E 48)), (1, .int (nI j)), (2, .int (nI t))]) hx hy dX6_bitOf_6 rfl hl (by decide) rfl (fun ls hl => ?_)
    refine lv_aload_n hx hy dX6_bitOf_7 rfl (lv_at hl 1 rfl) ?_
    refine lv_iload_n hx hy dX6_bitOf_8 rfl (lv_at hl 2 rfl) ?_
    refine lv_iconst (v := nI 2) hx hy dX6_bitOf_9 (by decide) ?_
    refine zI hI (xV F hI hl (kX6_of l E (u) j 2 (by omega) (by omega)) M_X6_100 (rX6 F hI) rfl ⟨Nat.le_of_ble_eq_true rfl, Nat.le_of_ble_eq_true rfl⟩ ⟨Nat.zero_le _, Nat.zero_le _⟩ rfl (Nat.le_of_ble_eq_true rfl) dX6_bitOf_10) (fun r83 v84 H locs hI hp82 => ?_)
    subst hp82
    refine tI (RowM.w2 hA hj) ?_
    refine lv_istore (lv' := [(4, .int (wM (z.2.2 j) 2)), (3, .int (nI ((z.2.2 j).2.1))), (0, .ref (eA E 48)), (1, .int (nI j)), (2, .int (nI t))]) hx hy dX6_bitOf_13 hl (by decide) rfl (fun ls hl => ?_)
    refine lv_aload_n hx hy dX6_bitOf_15 rfl (lv_at hl 2 rfl) ?_
    refine lv_iload_n hx hy dX6_bitOf_16 rfl (lv_at hl 3 rfl) ?_
    refine lv_iconst (v := nI 0) hx hy dX6_bitOf_17 (by decide) ?_
    refine zI hI (xV F hI hl (kX6_of l E (u) j 0 (by omega) (by omega)) M_X6_100 (rX6 F hI) rfl ⟨Nat.le_of_ble_eq_true rfl, Nat.le_of_ble_eq_true rfl⟩ ⟨Nat.zero_le _, Nat.zero_le _⟩ rfl (Nat.le_of_ble_eq_true rfl) dX6_bitOf_18) (fun r86 v87 H locs hI hp85 => ?_)
    subst hp85
    refine tI ((RowM.k hA hj).trans (congrArg nI hk1)) ?_
    refine lv_tableIn (tgt := 148) hx hy dX6_bitOf_21 (by decide) (by decide) (by rfl) (by decide) ?_
    refine lv_iconst (v := nI 1) hx hy dX6_bitOf_148 (by decide) ?_
    refine lv_aload_n hx hy dX6_bitOf_149 rfl (lv_at hl 2 rfl) ?_
    refine lv_iload_n hx hy dX6_bitOf_150 rfl (lv_at hl 1 rfl) ?_
    refine lv_iload_n hx hy dX6_bitOf_151 rfl (lv_at hl 4 rfl) ?_
    refine zI hI (xV F hI hl (kX6_bitAt l E (u) ((z.2.2 j).2.1) t (by omega) (by omega)) M_X6_107 (rX6 F hI) rfl ⟨Nat.le_of_ble_eq_true rfl, Nat.le_of_ble_eq_true rfl⟩ ⟨Nat.zero_le _, Nat.zero_le _⟩ rfl (Nat.le_of_ble_eq_true rfl) dX6_bitOf_152) (fun r89 v90 H locs hI hp88 => ?_)
    subst hp88
    refine tI (show _ = nI (bN (bt z.2.2 ((z.2.2 j).2.1) t)) from (hW ((z.2.2 j).2.1) (by omega) (t) (by omega))) ?_
    refine lv_isub hx hy dX6_bitOf_155 ?_
    refine tI (pk_sub (a := 1) (b := bN (bt z.2.2 ((z.2.2 j).2.1) t)) (bN_le _)) ?_
    exact rI hQ F (v := ()) hI dX6_bitOf_156 (by rw [bt_5 hok hk1]; cases bt z.2.2 (z.2.2 j).2.1 t <;> rfl)
  · have hA1 := hok.2.2.1 (by omega)
    have hD1 := hok.2.2.2.2.2.1 hk1
    refine lv_aload_n hx hy dX6_bitOf_0 rfl (lv_at hl 0 rfl) ?_
    refine lv_iload_n hx hy dX6_bitOf_1 rfl (lv_at hl 1 rfl) ?_
    refine lv_iconst (v := nI 1) hx hy dX6_bitOf_2 (by decide) ?_
    refine zI hI (xV F hI hl (kX6_of l E (u) j 1 (by omega) (by omega)) M_X6_100 (rX6 F hI) rfl ⟨Nat.le_of_ble_eq_true rfl, Nat.le_of_ble_eq_true rfl⟩ ⟨Nat.zero_le _, Nat.zero_le _⟩ rfl (Nat.le_of_ble_eq_true rfl) dX6_bitOf_3) (fun r92 v93 H locs hI hp91 => ?_)
    subst hp91
    refine tI ((RowM.w1 hA hj).trans (wM_1 (by rw [hk1]; decide))) ?_
    refine lv_istore_n (lv' := [(3, .int (nI ((z.2.2 j).2.1))), (0, .ref (eA E 48)), (1, .int (nI j)), (2, .int (nI t))]) hx hy dX6_bitOf_6 rfl hl (by decide) rfl (fun ls hl => ?_)
    refine lv_aload_n hx hy dX6_bitOf_7 rfl (lv_at hl 1 rfl) ?_
    refine lv_iload_n hx hy dX6_bitOf_8 rfl (lv_at hl 2 rfl) ?_
    refine lv_iconst (v := nI 2) hx hy dX6_bitOf_9 (by decide) ?_
    refine zI hI (xV F hI hl (kX6_of l E (u) j 2 (by omega) (by omega)) M_X6_100 (rX6 F hI) rfl ⟨Nat.le_of_ble_eq_true rfl, Nat.le_of_ble_eq_true rfl⟩ ⟨Nat.zero_le _, Nat.zero_le _⟩ rfl (Nat.le_of_ble_eq_true rfl) dX6_bitOf_10) (fun r95 v96 H locs hI hp94 => ?_)
    subst hp94
    refine tI ((RowM.w2 hA hj).trans (wM_2 (by rw [hk1]; decide))) ?_
    refine lv_istore (lv' := [(4, .int (nI ((z.2.2 j).2.2.1))), (3, .int (nI ((z.2.2 j).2.1))), (0, .ref (eA E 48)), (1, .int (nI j)), (2, .int (nI t))]) hx hy dX6_bitOf_13 hl (by decide) rfl (fun ls hl => ?_)
    refine lv_aload_n hx hy dX6_bitOf_15 rfl (lv_at hl 2 rfl) ?_
    refine lv_iload_n hx hy dX6_bitOf_16 rfl (lv_at hl 3 rfl) ?_
    refine lv_iconst (v := nI 0) hx hy dX6_bitOf_17 (by decide) ?_
    refine zI hI (xV F hI hl (kX6_of l E (u) j 0 (by omega) (by omega)) M_X6_100 (rX6 F hI) rfl ⟨Nat.le_of_ble_eq_true rfl, Nat.le_of_ble_eq_true rfl⟩ ⟨Nat.zero_le _, Nat.zero_le _⟩ rfl (Nat.le_of_ble_eq_true rfl) dX6_bitOf_18) (fun r98 v99 H locs hI hp97 => ?_)
    subst hp97
    refine tI ((RowM.k hA hj).trans (congrArg nI hk1)) ?_
    refine lv_tableOut (tgt := 157) hx hy dX6_bitOf_21 (by decide) (by decide) ?_
    refine lv_iload_n hx hy dX6_bitOf_157 rfl (lv_at hl 4 rfl) ?_
    refine lv_iload hx hy dX6_bitOf_158 (lv_at hl 0 rfl) ?_
    refine lv_icmp_ge (tgt := 167) hx hy dX6_bitOf_160 (by decide) (fun h100 => ?_) (fun h100 => ?_)
    · have h100 : (z.2.2 j).2.2.1 ≤ t := (nI_leI (a := (z.2.2 j).2.2.1) (b := t) (by omega) (by omega)).mp h100
      refine lv_aload_n hx hy dX6_bitOf_167 rfl (lv_at hl 2 rfl) ?_
      refine lv_iload_n hx hy dX6_bitOf_168 rfl (lv_at hl 1 rfl) ?_
      refine lv_iload_n hx hy dX6_bitOf_169 rfl (lv_at hl 4 rfl) ?_
      refine lv_iload hx hy dX6_bitOf_170 (lv_at hl 0 rfl) ?_
      refine lv_isub hx hy dX6_bitOf_172 ?_
      refine tI (pk_sub (a := t) (b := (z.2.2 j).2.2.1) (by omega)) ?_
      refine zI hI (xV F hI hl (kX6_bitAt l E (u) ((z.2.2 j).2.1) (t - ((z.2.2 j).2.2.1)) (by omega) (by omega)) M_X6_107 (rX6 F hI) rfl ⟨Nat.le_of_ble_eq_true rfl, Nat.le_of_ble_eq_true rfl⟩ ⟨Nat.zero_le _, Nat.zero_le _⟩ rfl (Nat.le_of_ble_eq_true rfl) dX6_bitOf_173) (fun r102 v103 H locs hI hp101 => ?_)
      subst hp101
      refine tI (show _ = nI (bN (bt z.2.2 ((z.2.2 j).2.1) (t - ((z.2.2 j).2.2.1)))) from (hW ((z.2.2 j).2.1) (by omega) (t - ((z.2.2 j).2.2.1)) (by omega))) ?_
      exact rI hQ F (v := ()) hI dX6_bitOf_176 (by rw [bt_6 hok hk1, if_neg (by omega)])
    · have h100 : t < (z.2.2 j).2.2.1 := Nat.lt_of_not_le (fun q9 => h100 ((nI_leI (a := (z.2.2 j).2.2.1) (b := t) (by omega) (by omega)).mpr q9))
      refine lv_iconst (v := nI 0) hx hy dX6_bitOf_163 (by decide) ?_
      refine lv_goto (tgt := 176) hx hy dX6_bitOf_164 (by decide) ?_
      exact rI hQ F (v := ()) hI dX6_bitOf_176 (by rw [bt_6 hok hk1, if_pos (by omega)]; rfl)
set_option maxHeartbeats 400000 in
set_option maxRecDepth 100000 in
theorem kX6_lays (l : Launch) (E : EV) (u : SS) {z : Sg} (hA : RowM u.1 41 0 z) (hz : SgOk z) (j tk : Nat) (hj : j < z.1) (htk : tk ≤ 1000) : CT l yX6_lays cX6_lays 5 none (Rm 2 46) [.ref (eA E 48), .int (nI j), .int (nI tk)] E u (Q_v E (fun c => (∀ a, a < j + 1 → BitM z.2.2 a tk c) ∧ LO u.1 c) (fun (c : CF) => (c, u.2))) := by
  refine mstart RX6 (by decide +kernel) rfl (Nat.le_of_ble_eq_true rfl) ?_
  intro p e s m args below meth co ls Q hQ F hI hl
  have hx := F.1
  have hy := F.2.1
  have hl : lv_has ls 5 [(0, .ref (eA E 48)), (1, .int (nI j)), (2, .int (nI tk))] := hl
  have hn16 := hz.1
  have hl1 := hz.2.1
  have hl2 := hz.2.2.1
  refine lv_iconst (v := nI 0) hx hy dX6_lays_0 (by decide) ?_
  refine lv_istore_n (lv' := [(3, .int (nI 0)), (0, .ref (eA E 48)), (1, .int (nI j)), (2, .int (nI tk))]) hx hy dX6_lays_1 rfl hl (by decide) rfl (fun ls hl => ?_)
  have lp1 : ∀ (fu : Nat) (i : Nat) (c : CF), (i ≤ j + 1) → (j + 1 - i < fu) → (∀ a, a < i → BitM z.2.2 a tk c) → (LO u.1 c) →  ∀ (H : Heap) (locs : List Loc) (ls : Array Slot), Iv E s H locs ((c, u.2)) → lv_has ls 5 [(3, .int (nI i)), (0, .ref (eA E 48)), (1, .int (nI j)), (2, .int (nI tk))] → W p l e (Rm 2 46) s m args below meth co H locs 0 0 Q (F0 m 2 ls []) := by
    intro fu
    induction fu with
    | zero => intro i c hi hf hb hlo; exact absurd hf (Nat.not_lt_zero _)
    | succ fu ih =>
      intro i c hi hf hb hlo H locs ls hI hl
      have hAc : RowM c 41 0 z := hlo.qo.row hA hz
      have ih_2 := ih
      refine lv_iload_n hx hy dX6_lays_2 rfl (lv_at hl 0 rfl) ?_
      refine lv_iload_n hx hy dX6_lays_3 rfl (lv_at hl 2 rfl) ?_
      refine lv_icmp_gt (tgt := 88) hx hy dX6_lays_4 (by decide) (fun h2 => ?_) (fun h2 => ?_)
      · have h2 : j < i := (nI_ltI (a := j) (b := i) (by omega) (by omega)).mp h2
        exact rV hQ F (v := c) hI dX6_lays_88 ⟨fun a ha => hb a (by omega), hlo⟩
      · have h2 : i ≤ j := Nat.le_of_not_lt (fun q9 => h2 ((nI_ltI (a := j) (b := i) (by omega) (by omega)).mpr q9))
        have hiz : i < z.1 := by omega
        have hoki := hz.2.2.2 i hiz
        have hik6 := hoki.1
        refine lv_aload_n hx hy dX6_lays_7 rfl (lv_at hl 1 rfl) ?_
        refine gX6_register F hI L_X6_29 dX6_lays_8 ?_
        refine lv_iload_n hx hy dX6_lays_11 rfl (lv_at hl 0 rfl) ?_
        refine lv_aload_n hx hy dX6_lays_12 rfl (lv_at hl 1 rfl) ?_
        refine lv_iload_n hx hy dX6_lays_13 rfl (lv_at hl 0 rfl) ?_
        refine lv_iconst (v := nI 2) hx hy dX6_lays_14 (by decide) ?_
        refine zI hI (xV F hI hl (kX6_of l E ((c, u.2)) i 2 (by omega) (by omega)) M_X6_100 (rX6 F hI) rfl ⟨Nat.le_of_ble_eq_true rfl, Nat.le_of_ble_eq_true rfl⟩ ⟨Nat.zero_le _, Nat.zero_le _⟩ rfl (Nat.le_of_ble_eq_true rfl) dX6_lays_15) (fun r4 v5 H locs hI hp3 => ?_)
        subst hp3
        refine tI (show _ = c 41 (2 + 4 * i + 2) from rfl) ?_
        refine tI (RowM.w2 hAc hiz) ?_
        refine aIsN F hI iX6_register (i := i) (by omega) (by decide) dX6_lays_18 (fun H locs hI => ?_)
        obtain ⟨c6, ec6⟩ : ∃ z9 : CF, z9 = up c 46 i (wM (z.2.2 i) 2) := ⟨_, rfl⟩
        have hI : Iv E s H locs (c6, u.2) := by rw [ec6]; exact hI
        have kf7 : c6 41 (2 + 4 * i + 0) = nI (z.2.2 i).1 := by rw [ec6, up_at, if_neg (by omega)]; exact (RowM.k hAc hiz)
        have kf8 : c6 41 (2 + 4 * i + 1) = wM (z.2.2 i) 1 := by rw [ec6, up_at, if_neg (by omega)]; exact (RowM.w1 hAc hiz)
        have kf9 : c6 41 (2 + 4 * i + 2) = wM (z.2.2 i) 2 := by rw [ec6, up_at, if_neg (by omega)]; exact (RowM.w2 hAc hiz)
        have kf10 : c6 41 (2 + 4 * i + 3) = wM (z.2.2 i) 3 := by rw [ec6, up_at, if_neg (by omega)]; exact (RowM.w3 hAc hiz)
        refine lv_iconst (v := nI 0) hx hy dX6_lays_19 (by decide) ?_
        refine lv_istore (lv' := [(4, .int (nI 0)), (3, .int (nI i)), (0, .ref (eA E 48)), (1, .int (nI j)), (2, .int (nI tk))]) hx hy dX6_lays_20 hl (by decide) rfl (fun ls hl => ?_)
        have lp11 : ∀ (fu : Nat) (t : Nat) (c5 : CF), (t ≤ tk) → (tk - t < fu) → (LayI z.2.2 i t tk u.1 c5) →  ∀ (H : Heap) (locs : List Loc) (ls : Array Slot), Iv E s H locs ((c5, u.2)) → lv_has ls 5 [(4, .int (nI t)), (3, .int (nI i)), (0, .ref (eA E 48)), (1, .int (nI j)), (2, .int (nI tk))] → W p l e (Rm 2 46) s m args below meth co H locs 0 0 Q (F0 m 22 ls []) := by
          intro fu
          induction fu with
          | zero => intro t c5 ht hf2 hI5; exact absurd hf2 (Nat.not_lt_zero _)
          | succ fu ih =>
            intro t c5 ht hf2 hI5 H locs ls hI hl
            have hA5 : RowM c5 41 0 z := hI5.row hA hz
            have ih_22 := ih
            refine lv_iload hx hy dX6_lays_22 (lv_at hl 0 rfl) ?_
            refine lv_iload_n hx hy dX6_lays_24 rfl (lv_at hl 4 rfl) ?_
            refine lv_icmp_ge (tgt := 82) hx hy dX6_lays_25 (by decide) (fun h12 => ?_) (fun h12 => ?_)
            · have h12 : tk ≤ t := (nI_leI (a := tk) (b := t) (by omega) (by omega)).mp h12
              refine lv_iinc (v := nI (i + 1)) (lv' := [(3, .int (nI (i + 1))), (4, .int (nI t)), (0, .ref (eA E 48)), (1, .int (nI j)), (2, .int (nI tk))]) hx hy dX6_lays_82 hl (k := 1) rfl (nI_add (i) 1) (by decide) rfl (fun ls hl => ?_)
              refine lv_goto (tgt := 2) hx hy dX6_lays_85 (by decide) ?_
              exact ih_2 (i + 1) c5 (by omega) (by omega) (hI5.done (by omega)) hI5.2.2.2 _ _ _ hI (lv_sub hl [0, 2, 3, 4] rfl)
            · have h12 : t < tk := Nat.lt_of_not_le (fun q9 => h12 ((nI_leI (a := tk) (b := t) (by omega) (by omega)).mpr q9))
              refine lv_aload_n hx hy dX6_lays_28 rfl (lv_at hl 2 rfl) ?_
              refine gX6_bits F hI L_X6_26 dX6_lays_29 ?_
              refine lv_sipush (v := nI 1000) hx hy dX6_lays_32 (by decide) ?_
              refine lv_iload_n hx hy dX6_lays_35 rfl (lv_at hl 1 rfl) ?_
              refine lv_imul hx hy dX6_lays_36 ?_
              refine tI (pk_mul (1000) (i)) ?_
              refine lv_iload hx hy dX6_lays_37 (lv_at hl 0 rfl) ?_
              refine lv_iadd hx hy dX6_lays_39 ?_
              refine tI (nI_add (1000 * i) (t)) ?_
              refine lv_aload_n hx hy dX6_lays_40 rfl (lv_at hl 2 rfl) ?_
              refine lv_iload_n hx hy dX6_lays_41 rfl (lv_at hl 1 rfl) ?_
              refine lv_iload hx hy dX6_lays_42 (lv_at hl 0 rfl) ?_
              refine zI hI (xV F hI hl (kX6_bitOf l E ((c5, u.2)) hA5 hz i t hiz (by omega) (fun a ha s hs => hI5.2.1 a ha s (by omega)) hI5.2.2.1) M_X6_110 (rX6 F hI) rfl ⟨Nat.le_of_ble_eq_true rfl, Nat.le_of_ble_eq_true rfl⟩ ⟨Nat.zero_le _, Nat.zero_le _⟩ rfl (Nat.le_of_ble_eq_true rfl) dX6_lays_44) (fun r14 v15 H locs hI hp13 => ?_)
              subst hp13
              refine aIsN F hI iX6_bits (i := 1000 * i + t) (by omega) (by decide) dX6_lays_47 (fun H locs hI => ?_)
              obtain ⟨c16, ec16⟩ : ∃ z9 : CF, z9 = up c5 45 (1000 * i + t) (nI (bN (bt z.2.2 i t))) := ⟨_, rfl⟩
              have hI : Iv E s H locs (c16, u.2) := by rw [ec16]; exact hI
              have kf17 : c16 41 (2 + 4 * i + 0) = nI (z.2.2 i).1 := by rw [ec16, up_at, if_neg (by omega)]; exact (RowM.k hA5 hiz)
              have kf18 : c16 41 (2 + 4 * i + 1) = wM (z.2.2 i) 1 := by rw [ec16, up_at, if_neg (by omega)]; exact (RowM.w1 hA5 hiz)
              have kf19 : c16 41 (2 + 4 * i + 2) = wM (z.2.2 i) 2 := by rw [ec16, up_at, if_neg (by omega)]; exact (RowM.w2 hA5 hiz)
              have kf20 : c16 41 (2 + 4 * i + 3) = wM (z.2.2 i) 3 := by rw [ec16, up_at, if_neg (by omega)]; exact (RowM.w3 hA5 hiz)
              refine lv_aload_n hx hy dX6_lays_48 rfl (lv_at hl 2 rfl) ?_
              refine gX6_register F hI L_X6_29 dX6_lays_49 ?_
              refine lv_iload_n hx hy dX6_lays_52 rfl (lv_at hl 1 rfl) ?_
              refine lv_aload_n hx hy dX6_lays_53 rfl (lv_at hl 2 rfl) ?_
              refine lv_iload_n hx hy dX6_lays_54 rfl (lv_at hl 1 rfl) ?_
              refine lv_iconst (v := nI 0) hx hy dX6_lays_55 (by decide) ?_
              refine zI hI (xV F hI hl (kX6_of l E ((c16, u.2)) i 0 (by omega) (by omega)) M_X6_100 (rX6 F hI) rfl ⟨Nat.le_of_ble_eq_true rfl, Nat.le_of_ble_eq_true rfl⟩ ⟨Nat.zero_le _, Nat.zero_le _⟩ rfl (Nat.le_of_ble_eq_true rfl) dX6_lays_56) (fun r22 v23 H locs hI hp21 => ?_)
              subst hp21
              refine tI (show _ = c16 41 (2 + 4 * i + 0) from rfl) ?_
              refine tI kf17 ?_
              refine lv_if_ne (tgt := 74) hx hy dX6_lays_59 (by decide) (fun h24 => ?_) (fun h24 => ?_)
              · have h24 : (z.2.2 i).1 ≠ 0 := fun q9 => h24 ((nI_eq (a := (z.2.2 i).1) (b := 0) (by omega) (by omega)).mpr q9)
                refine lv_iconst (v := nI 0) hx hy dX6_lays_74 (by decide) ?_
                refine aIsN F hI iX6_register (i := i) (by omega) (by decide) dX6_lays_75 (fun H locs hI => ?_)
                obtain ⟨c25, ec25⟩ : ∃ z9 : CF, z9 = up c16 46 i (nI 0) := ⟨_, rfl⟩
                have hI : Iv E s H locs (c25, u.2) := by rw [ec25]; exact hI
                have kf26 : c25 41 (2 + 4 * i + 0) = nI (z.2.2 i).1 := by rw [ec25, up_at, if_neg (by omega)]; exact kf17
                have kf27 : c25 41 (2 + 4 * i + 1) = wM (z.2.2 i) 1 := by rw [ec25, up_at, if_neg (by omega)]; exact kf18
                have kf28 : c25 41 (2 + 4 * i + 2) = wM (z.2.2 i) 2 := by rw [ec25, up_at, if_neg (by omega)]; exact kf19
                have kf29 : c25 41 (2 + 4 * i + 3) = wM (z.2.2 i) 3 := by rw [ec25, up_at, if_neg (by omega)]; exact kf20
                refine lv_iinc (v := nI (t + 1)) (lv' := [(4, .int (nI (t + 1))), (3, .int (nI i)), (0, .ref (eA E 48)), (1, .int (nI j)), (2, .int (nI tk))]) hx hy dX6_lays_76 hl (k := 0) rfl (nI_add (t) 1) (by decide) rfl (fun ls hl => ?_)
                refine lv_goto (tgt := 22) hx hy dX6_lays_79 (by decide) ?_
                exact ih_22 (t + 1) c25 (by omega) (by omega) (hI5.step htk (by omega) ec16 ec25 (fun e9 => absurd e9 h24)) _ _ _ hI (lv_sub hl [0, 1, 2, 3, 4] rfl)
              · have h24 : (z.2.2 i).1 = 0 := (nI_eq (a := (z.2.2 i).1) (b := 0) (by omega) (by omega)).mp h24
                have hsd := hoki.2.1 h24
                refine lv_aload_n hx hy dX6_lays_62 rfl (lv_at hl 2 rfl) ?_
                refine gX6_register F hI L_X6_29 dX6_lays_63 ?_
                refine lv_iload_n hx hy dX6_lays_66 rfl (lv_at hl 1 rfl) ?_
                refine aIlN F hI iX6_register (i := i) (by omega) (by decide) dX6_lays_67 ?_
                refine tI (show _ = c16 46 i from rfl) ?_
                refine tI (show c16 46 i = nI (reg (z.2.2 i).2.2.1 t) by rw [ec16, up_at, if_neg (by omega)]; exact hI5.2.2.1 h24) ?_
                refine zI hI (xS F hI hl (kX6_goesOn l E ((c16, u.2)) (reg (z.2.2 i).2.2.1 t) (reg_lt (by omega) t)) M_X6_113 rfl ⟨Nat.le_of_ble_eq_true rfl, Nat.le_of_ble_eq_true rfl⟩ ⟨Nat.zero_le _, Nat.zero_le _⟩ rfl (Nat.le_of_ble_eq_true rfl) dX6_lays_68) (fun r31 v32 H locs hI hp30 => ?_)
                subst hp30
                refine lv_goto (tgt := 75) hx hy dX6_lays_71 (by decide) ?_
                refine aIsN F hI iX6_register (i := i) (by omega) (by decide) dX6_lays_75 (fun H locs hI => ?_)
                obtain ⟨c33, ec33⟩ : ∃ z9 : CF, z9 = up c16 46 i (nI (nr (reg (z.2.2 i).2.2.1 t))) := ⟨_, rfl⟩
                have hI : Iv E s H locs (c33, u.2) := by rw [ec33]; exact hI
                have kf34 : c33 41 (2 + 4 * i + 0) = nI (z.2.2 i).1 := by rw [ec33, up_at, if_neg (by omega)]; exact kf17
                have kf35 : c33 41 (2 + 4 * i + 1) = wM (z.2.2 i) 1 := by rw [ec33, up_at, if_neg (by omega)]; exact kf18
                have kf36 : c33 41 (2 + 4 * i + 2) = wM (z.2.2 i) 2 := by rw [ec33, up_at, if_neg (by omega)]; exact kf19
                have kf37 : c33 41 (2 + 4 * i + 3) = wM (z.2.2 i) 3 := by rw [ec33, up_at, if_neg (by omega)]; exact kf20
                refine lv_iinc (v := nI (t + 1)) (lv' := [(4, .int (nI (t + 1))), (3, .int (nI i)), (0, .ref (eA E 48)), (1, .int (nI j)), (2, .int (nI tk))]) hx hy dX6_lays_76 hl (k := 0) rfl (nI_add (t) 1) (by decide) rfl (fun ls hl => ?_)
                refine lv_goto (tgt := 22) hx hy dX6_lays_79 (by decide) ?_
                exact ih_22 (t + 1) c33 (by omega) (by omega) (hI5.step htk (by omega) ec16 ec33 (fun _ => rfl)) _ _ _ hI (lv_sub hl [0, 1, 2, 3, 4] rfl)
        exact lp11 (tk + 1) 0 c6 (by omega) (by omega) (LayI.start hb hlo ec6 (fun e9 => wM_2 (by rw [e9]; decide))) _ _ _ hI (lv_sub hl [0, 1, 2, 3, 4] rfl)
  exact lp1 (j + 2) 0 u.1 (by omega) (by omega) (fun a ha => absurd ha (Nat.not_lt_zero a)) (fun _ _ _ _ => rfl) _ _ _ hI (lv_sub hl [0, 1, 2, 3] rfl)
set_option maxHeartbeats 400000 in
set_option maxRecDepth 100000 in
theorem kX6_countOf (l : Launch) (E : EV) (u : SS) {f : Nat → Ln} (j n : Nat) (hj : j < 16) (hn : n ≤ 1000) (hb : BitM f j n u.1) : CT l yX6_countOf cX6_countOf 5 (some .int) (Rm 1 22) [.ref (eA E 48), .int (nI j), .int (nI n)] E u (Q_i E (fun r _ => r = nI (cnt f j n)) (fun (_ : Unit) => u)) := by
  refine mstart RX6 (by decide +kernel) rfl (Nat.le_of_ble_eq_true rfl) ?_
  intro p e s m args below meth co ls Q hQ F hI hl
  have hx := F.1
  have hy := F.2.1
  have hl : lv_has ls 5 [(0, .ref (eA E 48)), (1, .int (nI j)), (2, .int (nI n))] := hl
  refine lv_iconst (v := nI 0) hx hy dX6_countOf_0 (by decide) ?_
  refine lv_istore_n (lv' := [(3, .int (nI 0)), (0, .ref (eA E 48)), (1, .int (nI j)), (2, .int (nI n))]) hx hy dX6_countOf_1 rfl hl (by decide) rfl (fun ls hl => ?_)
  refine lv_iconst (v := nI 0) hx hy dX6_countOf_2 (by decide) ?_
  refine lv_istore (lv' := [(4, .int (nI 0)), (3, .int (nI 0)), (0, .ref (eA E 48)), (1, .int (nI j)), (2, .int (nI n))]) hx hy dX6_countOf_3 hl (by decide) rfl (fun ls hl => ?_)
  have lp1 : ∀ (fu : Nat) (t : Nat), (t ≤ n) → (n - t < fu) →  ∀ (H : Heap) (locs : List Loc) (ls : Array Slot), Iv E s H locs (u) → lv_has ls 5 [(4, .int (nI t)), (3, .int (nI (cnt f j t))), (0, .ref (eA E 48)), (1, .int (nI j)), (2, .int (nI n))] → W p l e (Rm 1 22) s m args below meth co H locs 0 0 Q (F0 m 5 ls []) := by
    intro fu
    induction fu with
    | zero => intro t hi hf; exact absurd hf (Nat.not_lt_zero _)
    | succ fu ih =>
      intro t hi hf H locs ls hI hl
      have ih_5 := ih
      refine lv_iload hx hy dX6_countOf_5 (lv_at hl 0 rfl) ?_
      refine lv_iload_n hx hy dX6_countOf_7 rfl (lv_at hl 4 rfl) ?_
      refine lv_icmp_ge (tgt := 27) hx hy dX6_countOf_8 (by decide) (fun h2 => ?_) (fun h2 => ?_)
      · have h2 : n ≤ t := (nI_leI (a := n) (b := t) (by omega) (by omega)).mp h2
        refine lv_iload_n hx hy dX6_countOf_27 rfl (lv_at hl 1 rfl) ?_
        exact rI hQ F (v := ()) hI dX6_countOf_28 (by rw [show t = n from by omega])
      · have h2 : t < n := Nat.lt_of_not_le (fun q9 => h2 ((nI_leI (a := n) (b := t) (by omega) (by omega)).mpr q9))
        refine lv_iload_n hx hy dX6_countOf_11 rfl (lv_at hl 1 rfl) ?_
        refine lv_aload_n hx hy dX6_countOf_12 rfl (lv_at hl 2 rfl) ?_
        refine lv_iload_n hx hy dX6_countOf_13 rfl (lv_at hl 3 rfl) ?_
        refine lv_iload hx hy dX6_countOf_14 (lv_at hl 0 rfl) ?_
        refine zI hI (xV F hI hl (kX6_bitAt l E (u) j t (by omega) (by omega)) M_X6_107 (rX6 F hI) rfl ⟨Nat.le_of_ble_eq_true rfl, Nat.le_of_ble_eq_true rfl⟩ ⟨Nat.zero_le _, Nat.zero_le _⟩ rfl (Nat.le_of_ble_eq_true rfl) dX6_countOf_16) (fun r4 v5 H locs hI hp3 => ?_)
        subst hp3
        refine tI (show _ = nI (bN (bt f j t)) from (hb t (by omega))) ?_
        refine lv_iadd hx hy dX6_countOf_19 ?_
        refine tI (nI_add (cnt f j t) (bN (bt f j t))) ?_
        refine tI (congrArg nI (cnt_suc f j t)) ?_
        refine lv_istore_n (lv' := [(3, .int (nI (cnt f j (t + 1)))), (4, .int (nI t)), (0, .ref (eA E 48)), (1, .int (nI j)), (2, .int (nI n))]) hx hy dX6_countOf_20 rfl hl (by decide) rfl (fun ls hl => ?_)
        refine lv_iinc (v := nI (t + 1)) (lv' := [(4, .int (nI (t + 1))), (3, .int (nI (cnt f j (t + 1)))), (0, .ref (eA E 48)), (1, .int (nI j)), (2, .int (nI n))]) hx hy dX6_countOf_21 hl (k := 1) rfl (nI_add (t) 1) (by decide) rfl (fun ls hl => ?_)
        refine lv_goto (tgt := 5) hx hy dX6_countOf_24 (by decide) ?_
        exact ih_5 (t + 1) (by omega) (by omega) _ _ _ hI (lv_sub hl [0, 1, 2, 3, 4] rfl)
  exact lp1 (n + 1) 0 (by omega) (by omega) _ _ _ hI (lv_sub hl [0, 1, 2, 3, 4] rfl)
set_option maxHeartbeats 400000 in
set_option maxRecDepth 100000 in
theorem kX6_apart (l : Launch) (E : EV) (u : SS) (a b : Nat) (ha : a < 2 ^ 30) (hb : b < 2 ^ 30) : CT l yX6_apart cX6_apart 2 (some .int) (Rm 0 0) [.int (nI a), .int (nI b)] E u (Q_i E (fun r _ => r = nI (apt a b)) (fun (_ : Unit) => u)) := by
  refine mstart RX6 (by decide +kernel) rfl (Nat.le_of_ble_eq_true rfl) ?_
  intro p e s m args below meth co ls Q hQ F hI hl
  have hx := F.1
  have hy := F.2.1
  have hl : lv_has ls 2 [(0, .int (nI a)), (1, .int (nI b))] := hl
  refine lv_iload_n hx hy dX6_apart_0 rfl (lv_at hl 0 rfl) ?_
  refine lv_iload_n hx hy dX6_apart_1 rfl (lv_at hl 1 rfl) ?_
  refine lv_icmp_ge (tgt := 11) hx hy dX6_apart_2 (by decide) (fun h1 => ?_) (fun h1 => ?_)
  · have h1 : b ≤ a := (nI_leI (a := b) (b := a) (by omega) (by omega)).mp h1
    refine lv_iload_n hx hy dX6_apart_11 rfl (lv_at hl 0 rfl) ?_
    refine lv_iload_n hx hy dX6_apart_12 rfl (lv_at hl 1 rfl) ?_
    refine lv_isub hx hy dX6_apart_13 ?_
    refine tI (pk_sub (a := a) (b := b) (by omega)) ?_
    exact rI hQ F (v := ()) hI dX6_apart_14 (congrArg nI (by unfold apt; omega))
  · have h1 : a < b := Nat.lt_of_not_le (fun q9 => h1 ((nI_leI (a := b) (b := a) (by omega) (by omega)).mpr q9))
    refine lv_iload_n hx hy dX6_apart_5 rfl (lv_at hl 1 rfl) ?_
    refine lv_iload_n hx hy dX6_apart_6 rfl (lv_at hl 0 rfl) ?_
    refine lv_isub hx hy dX6_apart_7 ?_
    refine tI (pk_sub (a := b) (b := a) (by omega)) ?_
    refine lv_goto (tgt := 14) hx hy dX6_apart_8 (by decide) ?_
    exact rI hQ F (v := ()) hI dX6_apart_14 (congrArg nI (by unfold apt; omega))
set_option maxHeartbeats 400000 in
set_option maxRecDepth 100000 in
theorem kX6_errorBy (l : Launch) (E : EV) (u : SS) (j o t k : Nat) (hj : j < 16) (he : u.1 47 j = nI k) (hk : k ≤ 65536) (ho : o ≤ t) (ht : 1 ≤ t) (ht2 : t ≤ 1000) : CT l yX6_errorBy cX6_errorBy 4 (some .int) (Rm 1 21) [.ref (eA E 48), .int (nI j), .int (nI o), .int (nI t)] E u (Q_i E (fun r _ => r = nI (apt (o * 65536 / t) k)) (fun (_ : Unit) => u)) := by
  refine mstart RX6 (by decide +kernel) rfl (Nat.le_of_ble_eq_true rfl) ?_
  intro p e s m args below meth co ls Q hQ F hI hl
  have hx := F.1
  have hy := F.2.1
  have hl : lv_has ls 4 [(0, .ref (eA E 48)), (1, .int (nI j)), (2, .int (nI o)), (3, .int (nI t))] := hl
  have hsh : o * 65536 / t ≤ 65536 := Nat.div_le_of_le_mul (by omega)
  refine lv_iload_n hx hy dX6_errorBy_0 rfl (lv_at hl 2 rfl) ?_
  refine lv_i2l (v := lN (o)) hx hy dX6_errorBy_1 (nI_l (by omega)) ?_
  refine zcl F K_X6_118 dX6_errorBy_2 ?_
  refine tL (show _ = lN 65536 from rfl) ?_
  refine lv_lmul hx hy dX6_errorBy_5 ?_
  refine tL (lN_mul (o) (65536)) ?_
  refine lv_iload_n hx hy dX6_errorBy_6 rfl (lv_at hl 3 rfl) ?_
  refine lv_i2l (v := lN (t)) hx hy dX6_errorBy_7 (nI_l (by omega)) ?_
  refine lv_ldiv hx hy dX6_errorBy_8 (lN_ne ht ht2) ?_
  refine tL (pk_lDiv (a := o * 65536) (b := t) (by omega) (by omega) (by omega)) ?_
  refine lv_l2i (v := nI ((o * 65536) / t)) hx hy dX6_errorBy_9 (lN_i ((o * 65536) / t)) ?_
  refine lv_aload_n hx hy dX6_errorBy_10 rfl (lv_at hl 0 rfl) ?_
  refine gX6_exact F hI L_X6_32 dX6_errorBy_11 ?_
  refine lv_iload_n hx hy dX6_errorBy_14 rfl (lv_at hl 1 rfl) ?_
  refine aIlN F hI iX6_exact (i := j) (by omega) (by decide) dX6_errorBy_15 ?_
  refine tI he ?_
  refine zI hI (xS F hI hl (kX6_apart l E (u) ((o * 65536) / t) k (by omega) (by omega)) M_X6_122 rfl ⟨Nat.le_of_ble_eq_true rfl, Nat.le_of_ble_eq_true rfl⟩ ⟨Nat.zero_le _, Nat.zero_le _⟩ rfl (Nat.le_of_ble_eq_true rfl) dX6_errorBy_16) (fun r2 v3 H locs hI hp1 => ?_)
  subst hp1
  exact rI hQ F (v := ()) hI dX6_errorBy_19 rfl
set_option maxHeartbeats 400000 in
set_option maxRecDepth 100000 in
theorem kX6_findsExact (l : Launch) (E : EV) (u : SS) {z : Sg} (hA : RowM u.1 41 0 z) (hz : SgOk z) (j : Nat) (hj : j < z.1) : CT l yX6_findsExact cX6_findsExact 14 none (Rm 1 25) [.ref (eA E 48), .int (nI j)] E u (Q_v E (fun c => (∀ a, a < j + 1 → c 47 a = nI (ex z.2.2 a)) ∧ ∀ q k, q ≠ 47 → c q k = u.1 q k) (fun (c : CF) => (c, u.2))) := by
  refine mstart RX6 (by decide +kernel) rfl (Nat.le_of_ble_eq_true rfl) ?_
  intro p e s m args below meth co ls Q hQ F hI hl
  have hx := F.1
  have hy := F.2.1
  have hl : lv_has ls 14 [(0, .ref (eA E 48)), (1, .int (nI j))] := hl
  have hn16 := hz.1
  have hl1 := hz.2.1
  have hl2 := hz.2.2.1
  refine lv_iconst (v := nI 0) hx hy dX6_findsExact_0 (by decide) ?_
  refine lv_istore_n (lv' := [(2, .int (nI 0)), (0, .ref (eA E 48)), (1, .int (nI j))]) hx hy dX6_findsExact_1 rfl hl (by decide) rfl (fun ls hl => ?_)
  have lp1 : ∀ (fu : Nat) (i : Nat) (c : CF), (i ≤ j + 1) → (j + 1 - i < fu) → ((∀ a, a < i → c 47 a = nI (ex z.2.2 a)) ∧ ∀ q k, q ≠ 47 → c q k = u.1 q k) →  ∀ (H : Heap) (locs : List Loc) (ls : Array Slot), Iv E s H locs ((c, u.2)) → lv_has ls 14 [(2, .int (nI i)), (0, .ref (eA E 48)), (1, .int (nI j))] → W p l e (Rm 1 25) s m args below meth co H locs 0 0 Q (F0 m 2 ls []) := by
    intro fu
    induction fu with
    | zero => intro i c hi hf hE; exact absurd hf (Nat.not_lt_zero _)
    | succ fu ih =>
      intro i c hi hf hE H locs ls hI hl
      have hAc : RowM c 41 0 z := hA.keep hz.1 (fun i _ _ => hE.2 _ _ (by omega))
      have ih_2 := ih
      refine lv_iload_n hx hy dX6_findsExact_2 rfl (lv_at hl 0 rfl) ?_
      refine lv_iload_n hx hy dX6_findsExact_3 rfl (lv_at hl 2 rfl) ?_
      refine lv_icmp_gt (tgt := 228) hx hy dX6_findsExact_4 (by decide) (fun h2 => ?_) (fun h2 => ?_)
      · have h2 : j < i := (nI_ltI (a := j) (b := i) (by omega) (by omega)).mp h2
        exact rV hQ F (v := c) hI dX6_findsExact_228 ⟨fun a ha => hE.1 a (by omega), hE.2⟩
      · have h2 : i ≤ j := Nat.le_of_not_lt (fun q9 => h2 ((nI_ltI (a := j) (b := i) (by omega) (by omega)).mpr q9))
        have hiz : i < z.1 := by omega
        have hok := hz.2.2.2 i hiz
        have hk6 := hok.1
        have hB9 := hok.2.2.2.2.2.2.1
        have hC9 := hok.2.2.2.2.2.2.2
        rcases (show (z.2.2 i).1 = 0 ∨ (z.2.2 i).1 = 1 ∨ (z.2.2 i).1 = 2 ∨ (z.2.2 i).1 = 3 ∨ (z.2.2 i).1 = 4 ∨ (z.2.2 i).1 = 5 ∨ (z.2.2 i).1 = 6 from by omega) with hk3 | hk3 | hk3 | hk3 | hk3 | hk3 | hk3
        · have h256 := (hok.2.1 hk3).1
          refine lv_aload_n hx hy dX6_findsExact_7 rfl (lv_at hl 1 rfl) ?_
          refine lv_iload_n hx hy dX6_findsExact_8 rfl (lv_at hl 0 rfl) ?_
          refine lv_iconst (v := nI 0) hx hy dX6_findsExact_9 (by decide) ?_
          refine zI hI (xV F hI hl (kX6_of l E ((c, u.2)) i 0 (by omega) (by omega)) M_X6_100 (rX6 F hI) rfl ⟨Nat.le_of_ble_eq_true rfl, Nat.le_of_ble_eq_true rfl⟩ ⟨Nat.zero_le _, Nat.zero_le _⟩ rfl (Nat.le_of_ble_eq_true rfl) dX6_findsExact_10) (fun r5 v6 H locs hI hp4 => ?_)
          subst hp4
          refine tI (show _ = c 41 (2 + 4 * i + 0) from rfl) ?_
          refine tI ((RowM.k hAc hiz).trans (congrArg nI hk3)) ?_
          refine lv_istore_n (lv' := [(3, .int (nI 0)), (2, .int (nI i)), (0, .ref (eA E 48)), (1, .int (nI j))]) hx hy dX6_findsExact_13 rfl hl (by decide) rfl (fun ls hl => ?_)
          refine lv_iload_n hx hy dX6_findsExact_14 rfl (lv_at hl 0 rfl) ?_
          refine lv_if_ne (tgt := 22) hx hy dX6_findsExact_15 (by decide) (fun q => absurd q (by decide)) (fun _ => ?_)
          refine lv_lconst (v := lN 0) hx hy dX6_findsExact_18 (by decide) ?_
          refine lv_goto (tgt := 34) hx hy dX6_findsExact_19 (by decide) ?_
          refine lv_lstore (lv' := [(4, .long (lN 0)), (3, .int (nI 0)), (2, .int (nI i)), (0, .ref (eA E 48)), (1, .int (nI j))]) hx hy dX6_findsExact_34 hl (by decide) rfl (fun ls hl => ?_)
          refine lv_iload_n hx hy dX6_findsExact_36 rfl (lv_at hl 1 rfl) ?_
          refine lv_i2l (v := lN (0)) hx hy dX6_findsExact_37 (nI_l (by omega)) ?_
          refine lv_lconst (v := lN 1) hx hy dX6_findsExact_38 (by decide) ?_
          refine zcl F K_X6_116 dX6_findsExact_39 ?_
          refine tL (show _ = lN 4 from rfl) ?_
          refine zI hI (xS F hI hl (kX6_in l E ((c, u.2)) (lN (0)) (lN 1) (lN 4)) M_X6_65 rfl ⟨Nat.le_of_ble_eq_true rfl, Nat.le_of_ble_eq_true rfl⟩ ⟨Nat.zero_le _, Nat.zero_le _⟩ rfl (Nat.le_of_ble_eq_true rfl) dX6_findsExact_42) (fun r8 v9 H locs hI hp7 => ?_)
          have hp7 : r8 = 0 := hp7.trans (if_neg (by decide))
          subst hp7
          refine lv_if_eq (tgt := 63) hx hy dX6_findsExact_45 (by decide) (fun _ => ?_) (fun q => absurd q (by decide))
          refine lv_lconst (v := lN 0) hx hy dX6_findsExact_63 (by decide) ?_
          refine lv_lstore (lv' := [(6, .long (lN 0)), (4, .long (lN 0)), (3, .int (nI 0)), (2, .int (nI i)), (0, .ref (eA E 48)), (1, .int (nI j))]) hx hy dX6_findsExact_64 hl (by decide) rfl (fun ls hl => ?_)
          refine lv_lload hx hy dX6_findsExact_66 (lv_at hl 1 rfl) ?_
          refine lv_lload hx hy dX6_findsExact_68 (lv_at hl 0 rfl) ?_
          refine lv_lmul hx hy dX6_findsExact_70 ?_
          refine tL (lN_mul (0) (0)) ?_
          refine zcl F K_X6_118 dX6_findsExact_71 ?_
          refine tL (show _ = lN 65536 from rfl) ?_
          refine lv_ldiv hx hy dX6_findsExact_74 (by decide) ?_
          refine tL (pk_lDiv (a := 0 * 0) (b := 65536) (by omega) (by omega) (by omega)) ?_
          refine lv_lstore (lv' := [(8, .long (lN ((0 * 0) / 65536))), (6, .long (lN 0)), (4, .long (lN 0)), (3, .int (nI 0)), (2, .int (nI i)), (0, .ref (eA E 48)), (1, .int (nI j))]) hx hy dX6_findsExact_75 hl (by decide) rfl (fun ls hl => ?_)
          refine lv_iload_n hx hy dX6_findsExact_77 rfl (lv_at hl 3 rfl) ?_
          refine lv_iconst (v := nI 4) hx hy dX6_findsExact_78 (by decide) ?_
          refine lv_icmp_ne (tgt := 97) hx hy dX6_findsExact_79 (by decide) (fun _ => ?_) (fun q => absurd q (by decide))
          refine lv_lconst (v := lN 0) hx hy dX6_findsExact_97 (by decide) ?_
          refine lv_lstore (lv' := [(10, .long (lN 0)), (8, .long (lN ((0 * 0) / 65536))), (6, .long (lN 0)), (4, .long (lN 0)), (3, .int (nI 0)), (2, .int (nI i)), (0, .ref (eA E 48)), (1, .int (nI j))]) hx hy dX6_findsExact_98 hl (by decide) rfl (fun ls hl => ?_)
          refine lv_iload_n hx hy dX6_findsExact_100 rfl (lv_at hl 4 rfl) ?_
          refine lv_iconst (v := nI 1) hx hy dX6_findsExact_101 (by decide) ?_
          refine lv_icmp_ne (tgt := 110) hx hy dX6_findsExact_102 (by decide) (fun _ => ?_) (fun q => absurd q (by decide))
          refine lv_iload_n hx hy dX6_findsExact_110 rfl (lv_at hl 4 rfl) ?_
          refine lv_iconst (v := nI 2) hx hy dX6_findsExact_111 (by decide) ?_
          refine lv_icmp_ne (tgt := 126) hx hy dX6_findsExact_112 (by decide) (fun _ => ?_) (fun q => absurd q (by decide))
          refine lv_iload_n hx hy dX6_findsExact_126 rfl (lv_at hl 4 rfl) ?_
          refine lv_iconst (v := nI 3) hx hy dX6_findsExact_127 (by decide) ?_
          refine lv_icmp_ne (tgt := 146) hx hy dX6_findsExact_128 (by decide) (fun _ => ?_) (fun q => absurd q (by decide))
          refine lv_iload_n hx hy dX6_findsExact_146 rfl (lv_at hl 4 rfl) ?_
          refine lv_iconst (v := nI 5) hx hy dX6_findsExact_147 (by decide) ?_
          refine lv_icmp_ne (tgt := 160) hx hy dX6_findsExact_148 (by decide) (fun _ => ?_) (fun q => absurd q (by decide))
          refine lv_lload hx hy dX6_findsExact_160 (lv_at hl 3 rfl) ?_
          refine lv_lstore (lv' := [(12, .long (lN 0)), (10, .long (lN 0)), (8, .long (lN ((0 * 0) / 65536))), (6, .long (lN 0)), (4, .long (lN 0)), (3, .int (nI 0)), (2, .int (nI i)), (0, .ref (eA E 48)), (1, .int (nI j))]) hx hy dX6_findsExact_162 hl (by decide) rfl (fun ls hl => ?_)
          refine lv_iload_n hx hy dX6_findsExact_164 rfl (lv_at hl 5 rfl) ?_
          refine lv_if_ne (tgt := 182) hx hy dX6_findsExact_165 (by decide) (fun q => absurd q (by decide)) (fun _ => ?_)
          refine lv_aload_n hx hy dX6_findsExact_168 rfl (lv_at hl 7 rfl) ?_
          refine lv_iload_n hx hy dX6_findsExact_169 rfl (lv_at hl 6 rfl) ?_
          refine lv_iconst (v := nI 1) hx hy dX6_findsExact_170 (by decide) ?_
          refine zI hI (xV F hI hl (kX6_of l E ((c, u.2)) i 1 (by omega) (by omega)) M_X6_100 (rX6 F hI) rfl ⟨Nat.le_of_ble_eq_true rfl, Nat.le_of_ble_eq_true rfl⟩ ⟨Nat.zero_le _, Nat.zero_le _⟩ rfl (Nat.le_of_ble_eq_true rfl) dX6_findsExact_171) (fun r11 v12 H locs hI hp10 => ?_)
          subst hp10
          refine tI (show _ = c 41 (2 + 4 * i + 1) from rfl) ?_
          refine tI ((RowM.w1 hAc hiz).trans (wM_1 (by rw [hk3]; decide))) ?_
          refine lv_i2l (v := lN ((z.2.2 i).2.1)) hx hy dX6_findsExact_174 (nI_l (by omega)) ?_
          refine zcl F K_X6_81 dX6_findsExact_175 ?_
          refine tL (show _ = lN 256 from rfl) ?_
          refine lv_lmul hx hy dX6_findsExact_178 ?_
          refine tL (lN_mul ((z.2.2 i).2.1) (256)) ?_
          refine lv_goto (tgt := 211) hx hy dX6_findsExact_179 (by decide) ?_
          refine lv_lstore (lv' := [(12, .long (lN (((z.2.2 i).2.1) * 256))), (10, .long (lN 0)), (8, .long (lN ((0 * 0) / 65536))), (6, .long (lN 0)), (4, .long (lN 0)), (3, .int (nI 0)), (2, .int (nI i)), (0, .ref (eA E 48)), (1, .int (nI j))]) hx hy dX6_findsExact_211 hl (by decide) rfl (fun ls hl => ?_)
          refine lv_aload_n hx hy dX6_findsExact_213 rfl (lv_at hl 7 rfl) ?_
          refine gX6_exact F hI L_X6_32 dX6_findsExact_214 ?_
          refine lv_iload_n hx hy dX6_findsExact_217 rfl (lv_at hl 6 rfl) ?_
          refine lv_lload hx hy dX6_findsExact_218 (lv_at hl 0 rfl) ?_
          refine lv_l2i (v := nI (((z.2.2 i).2.1) * 256)) hx hy dX6_findsExact_220 (lN_i (((z.2.2 i).2.1) * 256)) ?_
          refine aIsN F hI iX6_exact (i := i) (by omega) (by decide) dX6_findsExact_221 (fun H locs hI => ?_)
          obtain ⟨c13, ec13⟩ : ∃ z9 : CF, z9 = up c 47 i (nI (((z.2.2 i).2.1) * 256)) := ⟨_, rfl⟩
          have hI : Iv E s H locs (c13, u.2) := by rw [ec13]; exact hI
          have kf14 : c13 41 (2 + 4 * i + 0) = nI 0 := by rw [ec13, up_at, if_neg (by omega)]; exact ((RowM.k hAc hiz).trans (congrArg nI hk3))
          have kf15 : c13 41 (2 + 4 * i + 1) = nI (z.2.2 i).2.1 := by rw [ec13, up_at, if_neg (by omega)]; exact ((RowM.w1 hAc hiz).trans (wM_1 (by rw [hk3]; decide)))
          have kf16 : c13 41 (2 + 4 * i + 2) = nI (z.2.2 i).2.2.1 := by rw [ec13, up_at, if_neg (by omega)]; exact ((RowM.w2 hAc hiz).trans (wM_2 (by rw [hk3]; decide)))
          have kf17 : c13 41 (2 + 4 * i + 3) = wM (z.2.2 i) 3 := by rw [ec13, up_at, if_neg (by omega)]; exact (RowM.w3 hAc hiz)
          refine lv_iinc (v := nI (i + 1)) (lv' := [(2, .int (nI (i + 1))), (12, .long (lN (((z.2.2 i).2.1) * 256))), (10, .long (lN 0)), (8, .long (lN ((0 * 0) / 65536))), (6, .long (lN 0)), (4, .long (lN 0)), (3, .int (nI 0)), (0, .ref (eA E 48)), (1, .int (nI j))]) hx hy dX6_findsExact_222 hl (k := 6) rfl (nI_add (i) 1) (by decide) rfl (fun ls hl => ?_)
          refine lv_goto (tgt := 2) hx hy dX6_findsExact_225 (by decide) ?_
          exact ih_2 (i + 1) c13 (by omega) (by omega) (exM_step hE (by rw [ec13, ex_eq hok]; simp [exS, hk3])) _ _ _ hI (lv_sub hl [0, 7, 8] rfl)
        · have hA1 := hok.2.2.1 (by omega)
          have hB1 := hok.2.2.2.1 (by omega) (by omega)
          have xA1 := hE.1 (z.2.2 i).2.1 hA1
          have lA1 := ex_le hz.2.2.2 (z.2.2 i).2.1 (by omega)
          have xB1 := hE.1 (z.2.2 i).2.2.1 hB1
          have lB1 := ex_le hz.2.2.2 (z.2.2 i).2.2.1 (by omega)
          have hab : ex z.2.2 (z.2.2 i).2.1 * ex z.2.2 (z.2.2 i).2.2.1 ≤ 65536 * 65536 := Nat.mul_le_mul lA1 lB1
          have p1 := pq_le (b := ex z.2.2 (z.2.2 i).2.2.1) lA1
          have p2 := pq_le2 (a := ex z.2.2 (z.2.2 i).2.1) lB1
          refine lv_aload_n hx hy dX6_findsExact_7 rfl (lv_at hl 1 rfl) ?_
          refine lv_iload_n hx hy dX6_findsExact_8 rfl (lv_at hl 0 rfl) ?_
          refine lv_iconst (v := nI 0) hx hy dX6_findsExact_9 (by decide) ?_
          refine zI hI (xV F hI hl (kX6_of l E ((c, u.2)) i 0 (by omega) (by omega)) M_X6_100 (rX6 F hI) rfl ⟨Nat.le_of_ble_eq_true rfl, Nat.le_of_ble_eq_true rfl⟩ ⟨Nat.zero_le _, Nat.zero_le _⟩ rfl (Nat.le_of_ble_eq_true rfl) dX6_findsExact_10) (fun r19 v20 H locs hI hp18 => ?_)
          subst hp18
          refine tI (show _ = c 41 (2 + 4 * i + 0) from rfl) ?_
          refine tI ((RowM.k hAc hiz).trans (congrArg nI hk3)) ?_
          refine lv_istore_n (lv' := [(3, .int (nI 1)), (2, .int (nI i)), (0, .ref (eA E 48)), (1, .int (nI j))]) hx hy dX6_findsExact_13 rfl hl (by decide) rfl (fun ls hl => ?_)
          refine lv_iload_n hx hy dX6_findsExact_14 rfl (lv_at hl 0 rfl) ?_
          refine lv_if_ne (tgt := 22) hx hy dX6_findsExact_15 (by decide) (fun _ => ?_) (fun q => absurd q (by decide))
          refine lv_aload_n hx hy dX6_findsExact_22 rfl (lv_at hl 2 rfl) ?_
          refine gX6_exact F hI L_X6_32 dX6_findsExact_23 ?_
          refine lv_aload_n hx hy dX6_findsExact_26 rfl (lv_at hl 2 rfl) ?_
          refine lv_iload_n hx hy dX6_findsExact_27 rfl (lv_at hl 1 rfl) ?_
          refine lv_iconst (v := nI 1) hx hy dX6_findsExact_28 (by decide) ?_
          refine zI hI (xV F hI hl (kX6_of l E ((c, u.2)) i 1 (by omega) (by omega)) M_X6_100 (rX6 F hI) rfl ⟨Nat.le_of_ble_eq_true rfl, Nat.le_of_ble_eq_true rfl⟩ ⟨Nat.zero_le _, Nat.zero_le _⟩ rfl (Nat.le_of_ble_eq_true rfl) dX6_findsExact_29) (fun r22 v23 H locs hI hp21 => ?_)
          subst hp21
          refine tI (show _ = c 41 (2 + 4 * i + 1) from rfl) ?_
          refine tI ((RowM.w1 hAc hiz).trans (wM_1 (by rw [hk3]; decide))) ?_
          refine aIlN F hI iX6_exact (i := (z.2.2 i).2.1) (by omega) (by decide) dX6_findsExact_32 ?_
          refine tI (show _ = c 47 ((z.2.2 i).2.1) from rfl) ?_
          refine tI xA1 ?_
          refine lv_i2l (v := lN (ex z.2.2 (z.2.2 i).2.1)) hx hy dX6_findsExact_33 (nI_l (by omega)) ?_
          refine lv_lstore (lv' := [(4, .long (lN (ex z.2.2 (z.2.2 i).2.1))), (3, .int (nI 1)), (2, .int (nI i)), (0, .ref (eA E 48)), (1, .int (nI j))]) hx hy dX6_findsExact_34 hl (by decide) rfl (fun ls hl => ?_)
          refine lv_iload_n hx hy dX6_findsExact_36 rfl (lv_at hl 1 rfl) ?_
          refine lv_i2l (v := lN (1)) hx hy dX6_findsExact_37 (nI_l (by omega)) ?_
          refine lv_lconst (v := lN 1) hx hy dX6_findsExact_38 (by decide) ?_
          refine zcl F K_X6_116 dX6_findsExact_39 ?_
          refine tL (show _ = lN 4 from rfl) ?_
          refine zI hI (xS F hI hl (kX6_in l E ((c, u.2)) (lN (1)) (lN 1) (lN 4)) M_X6_65 rfl ⟨Nat.le_of_ble_eq_true rfl, Nat.le_of_ble_eq_true rfl⟩ ⟨Nat.zero_le _, Nat.zero_le _⟩ rfl (Nat.le_of_ble_eq_true rfl) dX6_findsExact_42) (fun r25 v26 H locs hI hp24 => ?_)
          have hp24 : r25 = 1 := hp24.trans (if_pos (by decide))
          subst hp24
          refine lv_if_eq (tgt := 63) hx hy dX6_findsExact_45 (by decide) (fun q => absurd q (by decide)) (fun _ => ?_)
          refine lv_aload_n hx hy dX6_findsExact_48 rfl (lv_at hl 3 rfl) ?_
          refine gX6_exact F hI L_X6_32 dX6_findsExact_49 ?_
          refine lv_aload_n hx hy dX6_findsExact_52 rfl (lv_at hl 3 rfl) ?_
          refine lv_iload_n hx hy dX6_findsExact_53 rfl (lv_at hl 2 rfl) ?_
          refine lv_iconst (v := nI 2) hx hy dX6_findsExact_54 (by decide) ?_
          refine zI hI (xV F hI hl (kX6_of l E ((c, u.2)) i 2 (by omega) (by omega)) M_X6_100 (rX6 F hI) rfl ⟨Nat.le_of_ble_eq_true rfl, Nat.le_of_ble_eq_true rfl⟩ ⟨Nat.zero_le _, Nat.zero_le _⟩ rfl (Nat.le_of_ble_eq_true rfl) dX6_findsExact_55) (fun r28 v29 H locs hI hp27 => ?_)
          subst hp27
          refine tI (show _ = c 41 (2 + 4 * i + 2) from rfl) ?_
          refine tI ((RowM.w2 hAc hiz).trans (wM_2 (by rw [hk3]; decide))) ?_
          refine aIlN F hI iX6_exact (i := (z.2.2 i).2.2.1) (by omega) (by decide) dX6_findsExact_58 ?_
          refine tI (show _ = c 47 ((z.2.2 i).2.2.1) from rfl) ?_
          refine tI xB1 ?_
          refine lv_i2l (v := lN (ex z.2.2 (z.2.2 i).2.2.1)) hx hy dX6_findsExact_59 (nI_l (by omega)) ?_
          refine lv_goto (tgt := 64) hx hy dX6_findsExact_60 (by decide) ?_
          refine lv_lstore (lv' := [(6, .long (lN (ex z.2.2 (z.2.2 i).2.2.1))), (4, .long (lN (ex z.2.2 (z.2.2 i).2.1))), (3, .int (nI 1)), (2, .int (nI i)), (0, .ref (eA E 48)), (1, .int (nI j))]) hx hy dX6_findsExact_64 hl (by decide) rfl (fun ls hl => ?_)
          refine lv_lload hx hy dX6_findsExact_66 (lv_at hl 1 rfl) ?_
          refine lv_lload hx hy dX6_findsExact_68 (lv_at hl 0 rfl) ?_
          refine lv_lmul hx hy dX6_findsExact_70 ?_
          refine tL (lN_mul (ex z.2.2 (z.2.2 i).2.1) (ex z.2.2 (z.2.2 i).2.2.1)) ?_
          refine zcl F K_X6_118 dX6_findsExact_71 ?_
          refine tL (show _ = lN 65536 from rfl) ?_
          refine lv_ldiv hx hy dX6_findsExact_74 (by decide) ?_
          refine tL (pk_lDiv (a := (ex z.2.2 (z.2.2 i).2.1) * (ex z.2.2 (z.2.2 i).2.2.1)) (b := 65536) (by omega) (by omega) (by omega)) ?_
          refine lv_lstore (lv' := [(8, .long (lN (((ex z.2.2 (z.2.2 i).2.1) * (ex z.2.2 (z.2.2 i).2.2.1)) / 65536))), (6, .long (lN (ex z.2.2 (z.2.2 i).2.2.1))), (4, .long (lN (ex z.2.2 (z.2.2 i).2.1))), (3, .int (nI 1)), (2, .int (nI i)), (0, .ref (eA E 48)), (1, .int (nI j))]) hx hy dX6_findsExact_75 hl (by decide) rfl (fun ls hl => ?_)
          refine lv_iload_n hx hy dX6_findsExact_77 rfl (lv_at hl 3 rfl) ?_
          refine lv_iconst (v := nI 4) hx hy dX6_findsExact_78 (by decide) ?_
          refine lv_icmp_ne (tgt := 97) hx hy dX6_findsExact_79 (by decide) (fun _ => ?_) (fun q => absurd q (by decide))
          refine lv_lconst (v := lN 0) hx hy dX6_findsExact_97 (by decide) ?_
          refine lv_lstore (lv' := [(10, .long (lN 0)), (8, .long (lN (((ex z.2.2 (z.2.2 i).2.1) * (ex z.2.2 (z.2.2 i).2.2.1)) / 65536))), (6, .long (lN (ex z.2.2 (z.2.2 i).2.2.1))), (4, .long (lN (ex z.2.2 (z.2.2 i).2.1))), (3, .int (nI 1)), (2, .int (nI i)), (0, .ref (eA E 48)), (1, .int (nI j))]) hx hy dX6_findsExact_98 hl (by decide) rfl (fun ls hl => ?_)
          refine lv_iload_n hx hy dX6_findsExact_100 rfl (lv_at hl 4 rfl) ?_
          refine lv_iconst (v := nI 1) hx hy dX6_findsExact_101 (by decide) ?_
          refine lv_icmp_ne (tgt := 110) hx hy dX6_findsExact_102 (by decide) (fun q => absurd q (by decide)) (fun _ => ?_)
          refine lv_lload hx hy dX6_findsExact_105 (lv_at hl 1 rfl) ?_
          refine lv_goto (tgt := 162) hx hy dX6_findsExact_107 (by decide) ?_
          refine lv_lstore (lv' := [(12, .long (lN (((ex z.2.2 (z.2.2 i).2.1) * (ex z.2.2 (z.2.2 i).2.2.1)) / 65536))), (10, .long (lN 0)), (8, .long (lN (((ex z.2.2 (z.2.2 i).2.1) * (ex z.2.2 (z.2.2 i).2.2.1)) / 65536))), (6, .long (lN (ex z.2.2 (z.2.2 i).2.2.1))), (4, .long (lN (ex z.2.2 (z.2.2 i).2.1))), (3, .int (nI 1)), (2, .int (nI i)), (0, .ref (eA E 48)), (1, .int (nI j))]) hx hy dX6_findsExact_162 hl (by decide) rfl (fun ls hl => ?_)
          refine lv_iload_n hx hy dX6_findsExact_164 rfl (lv_at hl 5 rfl) ?_
          refine lv_if_ne (tgt := 182) hx hy dX6_findsExact_165 (by decide) (fun _ => ?_) (fun q => absurd q (by decide))
          refine lv_iload_n hx hy dX6_findsExact_182 rfl (lv_at hl 5 rfl) ?_
          refine lv_iconst (v := nI 4) hx hy dX6_findsExact_183 (by decide) ?_
          refine lv_icmp_ne (tgt := 209) hx hy dX6_findsExact_184 (by decide) (fun _ => ?_) (fun q => absurd q (by decide))
          refine lv_lload hx hy dX6_findsExact_209 (lv_at hl 0 rfl) ?_
          refine lv_lstore (lv' := [(12, .long (lN (((ex z.2.2 (z.2.2 i).2.1) * (ex z.2.2 (z.2.2 i).2.2.1)) / 65536))), (10, .long (lN 0)), (8, .long (lN (((ex z.2.2 (z.2.2 i).2.1) * (ex z.2.2 (z.2.2 i).2.2.1)) / 65536))), (6, .long (lN (ex z.2.2 (z.2.2 i).2.2.1))), (4, .long (lN (ex z.2.2 (z.2.2 i).2.1))), (3, .int (nI 1)), (2, .int (nI i)), (0, .ref (eA E 48)), (1, .int (nI j))]) hx hy dX6_findsExact_211 hl (by decide) rfl (fun ls hl => ?_)
          refine lv_aload_n hx hy dX6_findsExact_213 rfl (lv_at hl 7 rfl) ?_
          refine gX6_exact F hI L_X6_32 dX6_findsExact_214 ?_
          refine lv_iload_n hx hy dX6_findsExact_217 rfl (lv_at hl 6 rfl) ?_
          refine lv_lload hx hy dX6_findsExact_218 (lv_at hl 0 rfl) ?_
          refine lv_l2i (v := nI (((ex z.2.2 (z.2.2 i).2.1) * (ex z.2.2 (z.2.2 i).2.2.1)) / 65536)) hx hy dX6_findsExact_220 (lN_i (((ex z.2.2 (z.2.2 i).2.1) * (ex z.2.2 (z.2.2 i).2.2.1)) / 65536)) ?_
          refine aIsN F hI iX6_exact (i := i) (by omega) (by decide) dX6_findsExact_221 (fun H locs hI => ?_)
          obtain ⟨c30, ec30⟩ : ∃ z9 : CF, z9 = up c 47 i (nI (((ex z.2.2 (z.2.2 i).2.1) * (ex z.2.2 (z.2.2 i).2.2.1)) / 65536)) := ⟨_, rfl⟩
          have hI : Iv E s H locs (c30, u.2) := by rw [ec30]; exact hI
          have kf31 : c30 41 (2 + 4 * i + 0) = nI 1 := by rw [ec30, up_at, if_neg (by omega)]; exact ((RowM.k hAc hiz).trans (congrArg nI hk3))
          have kf32 : c30 41 (2 + 4 * i + 1) = nI (z.2.2 i).2.1 := by rw [ec30, up_at, if_neg (by omega)]; exact ((RowM.w1 hAc hiz).trans (wM_1 (by rw [hk3]; decide)))
          have kf33 : c30 41 (2 + 4 * i + 2) = nI (z.2.2 i).2.2.1 := by rw [ec30, up_at, if_neg (by omega)]; exact ((RowM.w2 hAc hiz).trans (wM_2 (by rw [hk3]; decide)))
          have kf34 : c30 41 (2 + 4 * i + 3) = wM (z.2.2 i) 3 := by rw [ec30, up_at, if_neg (by omega)]; exact (RowM.w3 hAc hiz)
          refine lv_iinc (v := nI (i + 1)) (lv' := [(2, .int (nI (i + 1))), (12, .long (lN (((ex z.2.2 (z.2.2 i).2.1) * (ex z.2.2 (z.2.2 i).2.2.1)) / 65536))), (10, .long (lN 0)), (8, .long (lN (((ex z.2.2 (z.2.2 i).2.1) * (ex z.2.2 (z.2.2 i).2.2.1)) / 65536))), (6, .long (lN (ex z.2.2 (z.2.2 i).2.2.1))), (4, .long (lN (ex z.2.2 (z.2.2 i).2.1))), (3, .int (nI 1)), (0, .ref (eA E 48)), (1, .int (nI j))]) hx hy dX6_findsExact_222 hl (k := 6) rfl (nI_add (i) 1) (by decide) rfl (fun ls hl => ?_)
          refine lv_goto (tgt := 2) hx hy dX6_findsExact_225 (by decide) ?_
          exact ih_2 (i + 1) c30 (by omega) (by omega) (exM_step hE (by rw [ec30, ex_eq hok]; simp [exS, hk3])) _ _ _ hI (lv_sub hl [0, 7, 8] rfl)
        · have hA1 := hok.2.2.1 (by omega)
          have hB1 := hok.2.2.2.1 (by omega) (by omega)
          have xA1 := hE.1 (z.2.2 i).2.1 hA1
          have lA1 := ex_le hz.2.2.2 (z.2.2 i).2.1 (by omega)
          have xB1 := hE.1 (z.2.2 i).2.2.1 hB1
          have lB1 := ex_le hz.2.2.2 (z.2.2 i).2.2.1 (by omega)
          have hab : ex z.2.2 (z.2.2 i).2.1 * ex z.2.2 (z.2.2 i).2.2.1 ≤ 65536 * 65536 := Nat.mul_le_mul lA1 lB1
          have p1 := pq_le (b := ex z.2.2 (z.2.2 i).2.2.1) lA1
          have p2 := pq_le2 (a := ex z.2.2 (z.2.2 i).2.1) lB1
          refine lv_aload_n hx hy dX6_findsExact_7 rfl (lv_at hl 1 rfl) ?_
          refine lv_iload_n hx hy dX6_findsExact_8 rfl (lv_at hl 0 rfl) ?_
          refine lv_iconst (v := nI 0) hx hy dX6_findsExact_9 (by decide) ?_
          refine zI hI (xV F hI hl (kX6_of l E ((c, u.2)) i 0 (by omega) (by omega)) M_X6_100 (rX6 F hI) rfl ⟨Nat.le_of_ble_eq_true rfl, Nat.le_of_ble_eq_true rfl⟩ ⟨Nat.zero_le _, Nat.zero_le _⟩ rfl (Nat.le_of_ble_eq_true rfl) dX6_findsExact_10) (fun r36 v37 H locs hI hp35 => ?_)
          subst hp35
          refine tI (show _ = c 41 (2 + 4 * i + 0) from rfl) ?_
          refine tI ((RowM.k hAc hiz).trans (congrArg nI hk3)) ?_
          refine lv_istore_n (lv' := [(3, .int (nI 2)), (2, .int (nI i)), (0, .ref (eA E 48)), (1, .int (nI j))]) hx hy dX6_findsExact_13 rfl hl (by decide) rfl (fun ls hl => ?_)
          refine lv_iload_n hx hy dX6_findsExact_14 rfl (lv_at hl 0 rfl) ?_
          refine lv_if_ne (tgt := 22) hx hy dX6_findsExact_15 (by decide) (fun _ => ?_) (fun q => absurd q (by decide))
          refine lv_aload_n hx hy dX6_findsExact_22 rfl (lv_at hl 2 rfl) ?_
          refine gX6_exact F hI L_X6_32 dX6_findsExact_23 ?_
          refine lv_aload_n hx hy dX6_findsExact_26 rfl (lv_at hl 2 rfl) ?_
          refine lv_iload_n hx hy dX6_findsExact_27 rfl (lv_at hl 1 rfl) ?_
          refine lv_iconst (v := nI 1) hx hy dX6_findsExact_28 (by decide) ?_
          refine zI hI (xV F hI hl (kX6_of l E ((c, u.2)) i 1 (by omega) (by omega)) M_X6_100 (rX6 F hI) rfl ⟨Nat.le_of_ble_eq_true rfl, Nat.le_of_ble_eq_true rfl⟩ ⟨Nat.zero_le _, Nat.zero_le _⟩ rfl (Nat.le_of_ble_eq_true rfl) dX6_findsExact_29) (fun r39 v40 H locs hI hp38 => ?_)
          subst hp38
          refine tI (show _ = c 41 (2 + 4 * i + 1) from rfl) ?_
          refine tI ((RowM.w1 hAc hiz).trans (wM_1 (by rw [hk3]; decide))) ?_
          refine aIlN F hI iX6_exact (i := (z.2.2 i).2.1) (by omega) (by decide) dX6_findsExact_32 ?_
          refine tI (show _ = c 47 ((z.2.2 i).2.1) from rfl) ?_
          refine tI xA1 ?_
          refine lv_i2l (v := lN (ex z.2.2 (z.2.2 i).2.1)) hx hy dX6_findsExact_33 (nI_l (by omega)) ?_
          refine lv_lstore (lv' := [(4, .long (lN (ex z.2.2 (z.2.2 i).2.1))), (3, .int (nI 2)), (2, .int (nI i)), (0, .ref (eA E 48)), (1, .int (nI j))]) hx hy dX6_findsExact_34 hl (by decide) rfl (fun ls hl => ?_)
          refine lv_iload_n hx hy dX6_findsExact_36 rfl (lv_at hl 1 rfl) ?_
          refine lv_i2l (v := lN (2)) hx hy dX6_findsExact_37 (nI_l (by omega)) ?_
          refine lv_lconst (v := lN 1) hx hy dX6_findsExact_38 (by decide) ?_
          refine zcl F K_X6_116 dX6_findsExact_39 ?_
          refine tL (show _ = lN 4 from rfl) ?_
          refine zI hI (xS F hI hl (kX6_in l E ((c, u.2)) (lN (2)) (lN 1) (lN 4)) M_X6_65 rfl ⟨Nat.le_of_ble_eq_true rfl, Nat.le_of_ble_eq_true rfl⟩ ⟨Nat.zero_le _, Nat.zero_le _⟩ rfl (Nat.le_of_ble_eq_true rfl) dX6_findsExact_42) (fun r42 v43 H locs hI hp41 => ?_)
          have hp41 : r42 = 1 := hp41.trans (if_pos (by decide))
          subst hp41
          refine lv_if_eq (tgt := 63) hx hy dX6_findsExact_45 (by decide) (fun q => absurd q (by decide)) (fun _ => ?_)
          refine lv_aload_n hx hy dX6_findsExact_48 rfl (lv_at hl 3 rfl) ?_
          refine gX6_exact F hI L_X6_32 dX6_findsExact_49 ?_
          refine lv_aload_n hx hy dX6_findsExact_52 rfl (lv_at hl 3 rfl) ?_
          refine lv_iload_n hx hy dX6_findsExact_53 rfl (lv_at hl 2 rfl) ?_
          refine lv_iconst (v := nI 2) hx hy dX6_findsExact_54 (by decide) ?_
          refine zI hI (xV F hI hl (kX6_of l E ((c, u.2)) i 2 (by omega) (by omega)) M_X6_100 (rX6 F hI) rfl ⟨Nat.le_of_ble_eq_true rfl, Nat.le_of_ble_eq_true rfl⟩ ⟨Nat.zero_le _, Nat.zero_le _⟩ rfl (Nat.le_of_ble_eq_true rfl) dX6_findsExact_55) (fun r45 v46 H locs hI hp44 => ?_)
          subst hp44
          refine tI (show _ = c 41 (2 + 4 * i + 2) from rfl) ?_
          refine tI ((RowM.w2 hAc hiz).trans (wM_2 (by rw [hk3]; decide))) ?_
          refine aIlN F hI iX6_exact (i := (z.2.2 i).2.2.1) (by omega) (by decide) dX6_findsExact_58 ?_
          refine tI (show _ = c 47 ((z.2.2 i).2.2.1) from rfl) ?_
          refine tI xB1 ?_
          refine lv_i2l (v := lN (ex z.2.2 (z.2.2 i).2.2.1)) hx hy dX6_findsExact_59 (nI_l (by omega)) ?_
          refine lv_goto (tgt := 64) hx hy dX6_findsExact_60 (by decide) ?_
          refine lv_lstore (lv' := [(6, .long (lN (ex z.2.2 (z.2.2 i).2.2.1))), (4, .long (lN (ex z.2.2 (z.2.2 i).2.1))), (3, .int (nI 2)), (2, .int (nI i)), (0, .ref (eA E 48)), (1, .int (nI j))]) hx hy dX6_findsExact_64 hl (by decide) rfl (fun ls hl => ?_)
          refine lv_lload hx hy dX6_findsExact_66 (lv_at hl 1 rfl) ?_
          refine lv_lload hx hy dX6_findsExact_68 (lv_at hl 0 rfl) ?_
          refine lv_lmul hx hy dX6_findsExact_70 ?_
          refine tL (lN_mul (ex z.2.2 (z.2.2 i).2.1) (ex z.2.2 (z.2.2 i).2.2.1)) ?_
          refine zcl F K_X6_118 dX6_findsExact_71 ?_
          refine tL (show _ = lN 65536 from rfl) ?_
          refine lv_ldiv hx hy dX6_findsExact_74 (by decide) ?_
          refine tL (pk_lDiv (a := (ex z.2.2 (z.2.2 i).2.1) * (ex z.2.2 (z.2.2 i).2.2.1)) (b := 65536) (by omega) (by omega) (by omega)) ?_
          refine lv_lstore (lv' := [(8, .long (lN (((ex z.2.2 (z.2.2 i).2.1) * (ex z.2.2 (z.2.2 i).2.2.1)) / 65536))), (6, .long (lN (ex z.2.2 (z.2.2 i).2.2.1))), (4, .long (lN (ex z.2.2 (z.2.2 i).2.1))), (3, .int (nI 2)), (2, .int (nI i)), (0, .ref (eA E 48)), (1, .int (nI j))]) hx hy dX6_findsExact_75 hl (by decide) rfl (fun ls hl => ?_)
          refine lv_iload_n hx hy dX6_findsExact_77 rfl (lv_at hl 3 rfl) ?_
          refine lv_iconst (v := nI 4) hx hy dX6_findsExact_78 (by decide) ?_
          refine lv_icmp_ne (tgt := 97) hx hy dX6_findsExact_79 (by decide) (fun _ => ?_) (fun q => absurd q (by decide))
          refine lv_lconst (v := lN 0) hx hy dX6_findsExact_97 (by decide) ?_
          refine lv_lstore (lv' := [(10, .long (lN 0)), (8, .long (lN (((ex z.2.2 (z.2.2 i).2.1) * (ex z.2.2 (z.2.2 i).2.2.1)) / 65536))), (6, .long (lN (ex z.2.2 (z.2.2 i).2.2.1))), (4, .long (lN (ex z.2.2 (z.2.2 i).2.1))), (3, .int (nI 2)), (2, .int (nI i)), (0, .ref (eA E 48)), (1, .int (nI j))]) hx hy dX6_findsExact_98 hl (by decide) rfl (fun ls hl => ?_)
          refine lv_iload_n hx hy dX6_findsExact_100 rfl (lv_at hl 4 rfl) ?_
          refine lv_iconst (v := nI 1) hx hy dX6_findsExact_101 (by decide) ?_
          refine lv_icmp_ne (tgt := 110) hx hy dX6_findsExact_102 (by decide) (fun _ => ?_) (fun q => absurd q (by decide))
          refine lv_iload_n hx hy dX6_findsExact_110 rfl (lv_at hl 4 rfl) ?_
          refine lv_iconst (v := nI 2) hx hy dX6_findsExact_111 (by decide) ?_
          refine lv_icmp_ne (tgt := 126) hx hy dX6_findsExact_112 (by decide) (fun q => absurd q (by decide)) (fun _ => ?_)
          refine lv_lload hx hy dX6_findsExact_115 (lv_at hl 3 rfl) ?_
          refine lv_lload hx hy dX6_findsExact_117 (lv_at hl 2 rfl) ?_
          refine lv_ladd hx hy dX6_findsExact_119 ?_
          refine tL (lN_add (ex z.2.2 (z.2.2 i).2.1) (ex z.2.2 (z.2.2 i).2.2.1)) ?_
          refine lv_lload hx hy dX6_findsExact_120 (lv_at hl 1 rfl) ?_
          refine lv_lsub hx hy dX6_findsExact_122 ?_
          refine tL (lN_sub (a := ex z.2.2 (z.2.2 i).2.1 + ex z.2.2 (z.2.2 i).2.2.1) (b := ((ex z.2.2 (z.2.2 i).2.1) * (ex z.2.2 (z.2.2 i).2.2.1)) / 65536) (by omega)) ?_
          refine lv_goto (tgt := 162) hx hy dX6_findsExact_123 (by decide) ?_
          refine lv_lstore (lv' := [(12, .long (lN ((ex z.2.2 (z.2.2 i).2.1 + ex z.2.2 (z.2.2 i).2.2.1) - (((ex z.2.2 (z.2.2 i).2.1) * (ex z.2.2 (z.2.2 i).2.2.1)) / 65536)))), (10, .long (lN 0)), (8, .long (lN (((ex z.2.2 (z.2.2 i).2.1) * (ex z.2.2 (z.2.2 i).2.2.1)) / 65536))), (6, .long (lN (ex z.2.2 (z.2.2 i).2.2.1))), (4, .long (lN (ex z.2.2 (z.2.2 i).2.1))), (3, .int (nI 2)), (2, .int (nI i)), (0, .ref (eA E 48)), (1, .int (nI j))]) hx hy dX6_findsExact_162 hl (by decide) rfl (fun ls hl => ?_)
          refine lv_iload_n hx hy dX6_findsExact_164 rfl (lv_at hl 5 rfl) ?_
          refine lv_if_ne (tgt := 182) hx hy dX6_findsExact_165 (by decide) (fun _ => ?_) (fun q => absurd q (by decide))
          refine lv_iload_n hx hy dX6_findsExact_182 rfl (lv_at hl 5 rfl) ?_
          refine lv_iconst (v := nI 4) hx hy dX6_findsExact_183 (by decide) ?_
          refine lv_icmp_ne (tgt := 209) hx hy dX6_findsExact_184 (by decide) (fun _ => ?_) (fun q => absurd q (by decide))
          refine lv_lload hx hy dX6_findsExact_209 (lv_at hl 0 rfl) ?_
          refine lv_lstore (lv' := [(12, .long (lN ((ex z.2.2 (z.2.2 i).2.1 + ex z.2.2 (z.2.2 i).2.2.1) - (((ex z.2.2 (z.2.2 i).2.1) * (ex z.2.2 (z.2.2 i).2.2.1)) / 65536)))), (10, .long (lN 0)), (8, .long (lN (((ex z.2.2 (z.2.2 i).2.1) * (ex z.2.2 (z.2.2 i).2.2.1)) / 65536))), (6, .long (lN (ex z.2.2 (z.2.2 i).2.2.1))), (4, .long (lN (ex z.2.2 (z.2.2 i).2.1))), (3, .int (nI 2)), (2, .int (nI i)), (0, .ref (eA E 48)), (1, .int (nI j))]) hx hy dX6_findsExact_211 hl (by decide) rfl (fun ls hl => ?_)
          refine lv_aload_n hx hy dX6_findsExact_213 rfl (lv_at hl 7 rfl) ?_
          refine gX6_exact F hI L_X6_32 dX6_findsExact_214 ?_
          refine lv_iload_n hx hy dX6_findsExact_217 rfl (lv_at hl 6 rfl) ?_
          refine lv_lload hx hy dX6_findsExact_218 (lv_at hl 0 rfl) ?_
          refine lv_l2i (v := nI ((ex z.2.2 (z.2.2 i).2.1 + ex z.2.2 (z.2.2 i).2.2.1) - (((ex z.2.2 (z.2.2 i).2.1) * (ex z.2.2 (z.2.2 i).2.2.1)) / 65536))) hx hy dX6_findsExact_220 (lN_i ((ex z.2.2 (z.2.2 i).2.1 + ex z.2.2 (z.2.2 i).2.2.1) - (((ex z.2.2 (z.2.2 i).2.1) * (ex z.2.2 (z.2.2 i).2.2.1)) / 65536))) ?_
          refine aIsN F hI iX6_exact (i := i) (by omega) (by decide) dX6_findsExact_221 (fun H locs hI => ?_)
          obtain ⟨c47, ec47⟩ : ∃ z9 : CF, z9 = up c 47 i (nI ((ex z.2.2 (z.2.2 i).2.1 + ex z.2.2 (z.2.2 i).2.2.1) - (((ex z.2.2 (z.2.2 i).2.1) * (ex z.2.2 (z.2.2 i).2.2.1)) / 65536))) := ⟨_, rfl⟩
          have hI : Iv E s H locs (c47, u.2) := by rw [ec47]; exact hI
          have kf48 : c47 41 (2 + 4 * i + 0) = nI 2 := by rw [ec47, up_at, if_neg (by omega)]; exact ((RowM.k hAc hiz).trans (congrArg nI hk3))
          have kf49 : c47 41 (2 + 4 * i + 1) = nI (z.2.2 i).2.1 := by rw [ec47, up_at, if_neg (by omega)]; exact ((RowM.w1 hAc hiz).trans (wM_1 (by rw [hk3]; decide)))
          have kf50 : c47 41 (2 + 4 * i + 2) = nI (z.2.2 i).2.2.1 := by rw [ec47, up_at, if_neg (by omega)]; exact ((RowM.w2 hAc hiz).trans (wM_2 (by rw [hk3]; decide)))
          have kf51 : c47 41 (2 + 4 * i + 3) = wM (z.2.2 i) 3 := by rw [ec47, up_at, if_neg (by omega)]; exact (RowM.w3 hAc hiz)
          refine lv_iinc (v := nI (i + 1)) (lv' := [(2, .int (nI (i + 1))), (12, .long (lN ((ex z.2.2 (z.2.2 i).2.1 + ex z.2.2 (z.2.2 i).2.2.1) - (((ex z.2.2 (z.2.2 i).2.1) * (ex z.2.2 (z.2.2 i).2.2.1)) / 65536)))), (10, .long (lN 0)), (8, .long (lN (((ex z.2.2 (z.2.2 i).2.1) * (ex z.2.2 (z.2.2 i).2.2.1)) / 65536))), (6, .long (lN (ex z.2.2 (z.2.2 i).2.2.1))), (4, .long (lN (ex z.2.2 (z.2.2 i).2.1))), (3, .int (nI 2)), (0, .ref (eA E 48)), (1, .int (nI j))]) hx hy dX6_findsExact_222 hl (k := 6) rfl (nI_add (i) 1) (by decide) rfl (fun ls hl => ?_)
          refine lv_goto (tgt := 2) hx hy dX6_findsExact_225 (by decide) ?_
          exact ih_2 (i + 1) c47 (by omega) (by omega) (exM_step hE (by rw [ec47, ex_eq hok]; simp [exS, hk3])) _ _ _ hI (lv_sub hl [0, 7, 8] rfl)
        · have hA1 := hok.2.2.1 (by omega)
          have hB1 := hok.2.2.2.1 (by omega) (by omega)
          have xA1 := hE.1 (z.2.2 i).2.1 hA1
          have lA1 := ex_le hz.2.2.2 (z.2.2 i).2.1 (by omega)
          have xB1 := hE.1 (z.2.2 i).2.2.1 hB1
          have lB1 := ex_le hz.2.2.2 (z.2.2 i).2.2.1 (by omega)
          have hab : ex z.2.2 (z.2.2 i).2.1 * ex z.2.2 (z.2.2 i).2.2.1 ≤ 65536 * 65536 := Nat.mul_le_mul lA1 lB1
          have p1 := pq_le (b := ex z.2.2 (z.2.2 i).2.2.1) lA1
          have p2 := pq_le2 (a := ex z.2.2 (z.2.2 i).2.1) lB1
          refine lv_aload_n hx hy dX6_findsExact_7 rfl (lv_at hl 1 rfl) ?_
          refine lv_iload_n hx hy dX6_findsExact_8 rfl (lv_at hl 0 rfl) ?_
          refine lv_iconst (v := nI 0) hx hy dX6_findsExact_9 (by decide) ?_
          refine zI hI (xV F hI hl (kX6_of l E ((c, u.2)) i 0 (by omega) (by omega)) M_X6_100 (rX6 F hI) rfl ⟨Nat.le_of_ble_eq_true rfl, Nat.le_of_ble_eq_true rfl⟩ ⟨Nat.zero_le _, Nat.zero_le _⟩ rfl (Nat.le_of_ble_eq_true rfl) dX6_findsExact_10) (fun r53 v54 H locs hI hp52 => ?_)
          subst hp52
          refine tI (show _ = c 41 (2 + 4 * i + 0) from rfl) ?_
          refine tI ((RowM.k hAc hiz).trans (congrArg nI hk3)) ?_
          refine lv_istore_n (lv' := [(3, .int (nI 3)), (2, .int (nI i)), (0, .ref (eA E 48)), (1, .int (nI j))]) hx hy dX6_findsExact_13 rfl hl (by decide) rfl (fun ls hl => ?_)
          refine lv_iload_n hx hy dX6_findsExact_14 rfl (lv_at hl 0 rfl) ?_
          refine lv_if_ne (tgt := 22) hx hy dX6_findsExact_15 (by decide) (fun _ => ?_) (fun q => absurd q (by decide))
          refine lv_aload_n hx hy dX6_findsExact_22 rfl (lv_at hl 2 rfl) ?_
          refine gX6_exact F hI L_X6_32 dX6_findsExact_23 ?_
          refine lv_aload_n hx hy dX6_findsExact_26 rfl (lv_at hl 2 rfl) ?_
          refine lv_iload_n hx hy dX6_findsExact_27 rfl (lv_at hl 1 rfl) ?_
          refine lv_iconst (v := nI 1) hx hy dX6_findsExact_28 (by decide) ?_
          refine zI hI (xV F hI hl (kX6_of l E ((c, u.2)) i 1 (by omega) (by omega)) M_X6_100 (rX6 F hI) rfl ⟨Nat.le_of_ble_eq_true rfl, Nat.le_of_ble_eq_true rfl⟩ ⟨Nat.zero_le _, Nat.zero_le _⟩ rfl (Nat.le_of_ble_eq_true rfl) dX6_findsExact_29) (fun r56 v57 H locs hI hp55 => ?_)
          subst hp55
          refine tI (show _ = c 41 (2 + 4 * i + 1) from rfl) ?_
          refine tI ((RowM.w1 hAc hiz).trans (wM_1 (by rw [hk3]; decide))) ?_
          refine aIlN F hI iX6_exact (i := (z.2.2 i).2.1) (by omega) (by decide) dX6_findsExact_32 ?_
          refine tI (show _ = c 47 ((z.2.2 i).2.1) from rfl) ?_
          refine tI xA1 ?_
          refine lv_i2l (v := lN (ex z.2.2 (z.2.2 i).2.1)) hx hy dX6_findsExact_33 (nI_l (by omega)) ?_
          refine lv_lstore (lv' := [(4, .long (lN (ex z.2.2 (z.2.2 i).2.1))), (3, .int (nI 3)), (2, .int (nI i)), (0, .ref (eA E 48)), (1, .int (nI j))]) hx hy dX6_findsExact_34 hl (by decide) rfl (fun ls hl => ?_)
          refine lv_iload_n hx hy dX6_findsExact_36 rfl (lv_at hl 1 rfl) ?_
          refine lv_i2l (v := lN (3)) hx hy dX6_findsExact_37 (nI_l (by omega)) ?_
          refine lv_lconst (v := lN 1) hx hy dX6_findsExact_38 (by decide) ?_
          refine zcl F K_X6_116 dX6_findsExact_39 ?_
          refine tL (show _ = lN 4 from rfl) ?_
          refine zI hI (xS F hI hl (kX6_in l E ((c, u.2)) (lN (3)) (lN 1) (lN 4)) M_X6_65 rfl ⟨Nat.le_of_ble_eq_true rfl, Nat.le_of_ble_eq_true rfl⟩ ⟨Nat.zero_le _, Nat.zero_le _⟩ rfl (Nat.le_of_ble_eq_true rfl) dX6_findsExact_42) (fun r59 v60 H locs hI hp58 => ?_)
          have hp58 : r59 = 1 := hp58.trans (if_pos (by decide))
          subst hp58
          refine lv_if_eq (tgt := 63) hx hy dX6_findsExact_45 (by decide) (fun q => absurd q (by decide)) (fun _ => ?_)
          refine lv_aload_n hx hy dX6_findsExact_48 rfl (lv_at hl 3 rfl) ?_
          refine gX6_exact F hI L_X6_32 dX6_findsExact_49 ?_
          refine lv_aload_n hx hy dX6_findsExact_52 rfl (lv_at hl 3 rfl) ?_
          refine lv_iload_n hx hy dX6_findsExact_53 rfl (lv_at hl 2 rfl) ?_
          refine lv_iconst (v := nI 2) hx hy dX6_findsExact_54 (by decide) ?_
          refine zI hI (xV F hI hl (kX6_of l E ((c, u.2)) i 2 (by omega) (by omega)) M_X6_100 (rX6 F hI) rfl ⟨Nat.le_of_ble_eq_true rfl, Nat.le_of_ble_eq_true rfl⟩ ⟨Nat.zero_le _, Nat.zero_le _⟩ rfl (Nat.le_of_ble_eq_true rfl) dX6_findsExact_55) (fun r62 v63 H locs hI hp61 => ?_)
          subst hp61
          refine tI (show _ = c 41 (2 + 4 * i + 2) from rfl) ?_
          refine tI ((RowM.w2 hAc hiz).trans (wM_2 (by rw [hk3]; decide))) ?_
          refine aIlN F hI iX6_exact (i := (z.2.2 i).2.2.1) (by omega) (by decide) dX6_findsExact_58 ?_
          refine tI (show _ = c 47 ((z.2.2 i).2.2.1) from rfl) ?_
          refine tI xB1 ?_
          refine lv_i2l (v := lN (ex z.2.2 (z.2.2 i).2.2.1)) hx hy dX6_findsExact_59 (nI_l (by omega)) ?_
          refine lv_goto (tgt := 64) hx hy dX6_findsExact_60 (by decide) ?_
          refine lv_lstore (lv' := [(6, .long (lN (ex z.2.2 (z.2.2 i).2.2.1))), (4, .long (lN (ex z.2.2 (z.2.2 i).2.1))), (3, .int (nI 3)), (2, .int (nI i)), (0, .ref (eA E 48)), (1, .int (nI j))]) hx hy dX6_findsExact_64 hl (by decide) rfl (fun ls hl => ?_)
          refine lv_lload hx hy dX6_findsExact_66 (lv_at hl 1 rfl) ?_
          refine lv_lload hx hy dX6_findsExact_68 (lv_at hl 0 rfl) ?_
          refine lv_lmul hx hy dX6_findsExact_70 ?_
          refine tL (lN_mul (ex z.2.2 (z.2.2 i).2.1) (ex z.2.2 (z.2.2 i).2.2.1)) ?_
          refine zcl F K_X6_118 dX6_findsExact_71 ?_
          refine tL (show _ = lN 65536 from rfl) ?_
          refine lv_ldiv hx hy dX6_findsExact_74 (by decide) ?_
          refine tL (pk_lDiv (a := (ex z.2.2 (z.2.2 i).2.1) * (ex z.2.2 (z.2.2 i).2.2.1)) (b := 65536) (by omega) (by omega) (by omega)) ?_
          refine lv_lstore (lv' := [(8, .long (lN (((ex z.2.2 (z.2.2 i).2.1) * (ex z.2.2 (z.2.2 i).2.2.1)) / 65536))), (6, .long (lN (ex z.2.2 (z.2.2 i).2.2.1))), (4, .long (lN (ex z.2.2 (z.2.2 i).2.1))), (3, .int (nI 3)), (2, .int (nI i)), (0, .ref (eA E 48)), (1, .int (nI j))]) hx hy dX6_findsExact_75 hl (by decide) rfl (fun ls hl => ?_)
          refine lv_iload_n hx hy dX6_findsExact_77 rfl (lv_at hl 3 rfl) ?_
          refine lv_iconst (v := nI 4) hx hy dX6_findsExact_78 (by decide) ?_
          refine lv_icmp_ne (tgt := 97) hx hy dX6_findsExact_79 (by decide) (fun _ => ?_) (fun q => absurd q (by decide))
          refine lv_lconst (v := lN 0) hx hy dX6_findsExact_97 (by decide) ?_
          refine lv_lstore (lv' := [(10, .long (lN 0)), (8, .long (lN (((ex z.2.2 (z.2.2 i).2.1) * (ex z.2.2 (z.2.2 i).2.2.1)) / 65536))), (6, .long (lN (ex z.2.2 (z.2.2 i).2.2.1))), (4, .long (lN (ex z.2.2 (z.2.2 i).2.1))), (3, .int (nI 3)), (2, .int (nI i)), (0, .ref (eA E 48)), (1, .int (nI j))]) hx hy dX6_findsExact_98 hl (by decide) rfl (fun ls hl => ?_)
          refine lv_iload_n hx hy dX6_findsExact_100 rfl (lv_at hl 4 rfl) ?_
          refine lv_iconst (v := nI 1) hx hy dX6_findsExact_101 (by decide) ?_
          refine lv_icmp_ne (tgt := 110) hx hy dX6_findsExact_102 (by decide) (fun _ => ?_) (fun q => absurd q (by decide))
          refine lv_iload_n hx hy dX6_findsExact_110 rfl (lv_at hl 4 rfl) ?_
          refine lv_iconst (v := nI 2) hx hy dX6_findsExact_111 (by decide) ?_
          refine lv_icmp_ne (tgt := 126) hx hy dX6_findsExact_112 (by decide) (fun _ => ?_) (fun q => absurd q (by decide))
          refine lv_iload_n hx hy dX6_findsExact_126 rfl (lv_at hl 4 rfl) ?_
          refine lv_iconst (v := nI 3) hx hy dX6_findsExact_127 (by decide) ?_
          refine lv_icmp_ne (tgt := 146) hx hy dX6_findsExact_128 (by decide) (fun q => absurd q (by decide)) (fun _ => ?_)
          refine lv_lload hx hy dX6_findsExact_131 (lv_at hl 3 rfl) ?_
          refine lv_lload hx hy dX6_findsExact_133 (lv_at hl 2 rfl) ?_
          refine lv_ladd hx hy dX6_findsExact_135 ?_
          refine tL (lN_add (ex z.2.2 (z.2.2 i).2.1) (ex z.2.2 (z.2.2 i).2.2.1)) ?_
          refine zcl F K_X6_120 dX6_findsExact_136 ?_
          refine tL (show _ = lN 2 from rfl) ?_
          refine lv_lload hx hy dX6_findsExact_139 (lv_at hl 1 rfl) ?_
          refine lv_lmul hx hy dX6_findsExact_141 ?_
          refine tL (lN_mul (2) (((ex z.2.2 (z.2.2 i).2.1) * (ex z.2.2 (z.2.2 i).2.2.1)) / 65536)) ?_
          refine lv_lsub hx hy dX6_findsExact_142 ?_
          refine tL (lN_sub (a := ex z.2.2 (z.2.2 i).2.1 + ex z.2.2 (z.2.2 i).2.2.1) (b := 2 * (((ex z.2.2 (z.2.2 i).2.1) * (ex z.2.2 (z.2.2 i).2.2.1)) / 65536)) (by omega)) ?_
          refine lv_goto (tgt := 162) hx hy dX6_findsExact_143 (by decide) ?_
          refine lv_lstore (lv' := [(12, .long (lN ((ex z.2.2 (z.2.2 i).2.1 + ex z.2.2 (z.2.2 i).2.2.1) - (2 * (((ex z.2.2 (z.2.2 i).2.1) * (ex z.2.2 (z.2.2 i).2.2.1)) / 65536))))), (10, .long (lN 0)), (8, .long (lN (((ex z.2.2 (z.2.2 i).2.1) * (ex z.2.2 (z.2.2 i).2.2.1)) / 65536))), (6, .long (lN (ex z.2.2 (z.2.2 i).2.2.1))), (4, .long (lN (ex z.2.2 (z.2.2 i).2.1))), (3, .int (nI 3)), (2, .int (nI i)), (0, .ref (eA E 48)), (1, .int (nI j))]) hx hy dX6_findsExact_162 hl (by decide) rfl (fun ls hl => ?_)
          refine lv_iload_n hx hy dX6_findsExact_164 rfl (lv_at hl 5 rfl) ?_
          refine lv_if_ne (tgt := 182) hx hy dX6_findsExact_165 (by decide) (fun _ => ?_) (fun q => absurd q (by decide))
          refine lv_iload_n hx hy dX6_findsExact_182 rfl (lv_at hl 5 rfl) ?_
          refine lv_iconst (v := nI 4) hx hy dX6_findsExact_183 (by decide) ?_
          refine lv_icmp_ne (tgt := 209) hx hy dX6_findsExact_184 (by decide) (fun _ => ?_) (fun q => absurd q (by decide))
          refine lv_lload hx hy dX6_findsExact_209 (lv_at hl 0 rfl) ?_
          refine lv_lstore (lv' := [(12, .long (lN ((ex z.2.2 (z.2.2 i).2.1 + ex z.2.2 (z.2.2 i).2.2.1) - (2 * (((ex z.2.2 (z.2.2 i).2.1) * (ex z.2.2 (z.2.2 i).2.2.1)) / 65536))))), (10, .long (lN 0)), (8, .long (lN (((ex z.2.2 (z.2.2 i).2.1) * (ex z.2.2 (z.2.2 i).2.2.1)) / 65536))), (6, .long (lN (ex z.2.2 (z.2.2 i).2.2.1))), (4, .long (lN (ex z.2.2 (z.2.2 i).2.1))), (3, .int (nI 3)), (2, .int (nI i)), (0, .ref (eA E 48)), (1, .int (nI j))]) hx hy dX6_findsExact_211 hl (by decide) rfl (fun ls hl => ?_)
          refine lv_aload_n hx hy dX6_findsExact_213 rfl (lv_at hl 7 rfl) ?_
          refine gX6_exact F hI L_X6_32 dX6_findsExact_214 ?_
          refine lv_iload_n hx hy dX6_findsExact_217 rfl (lv_at hl 6 rfl) ?_
          refine lv_lload hx hy dX6_findsExact_218 (lv_at hl 0 rfl) ?_
          refine lv_l2i (v := nI ((ex z.2.2 (z.2.2 i).2.1 + ex z.2.2 (z.2.2 i).2.2.1) - (2 * (((ex z.2.2 (z.2.2 i).2.1) * (ex z.2.2 (z.2.2 i).2.2.1)) / 65536)))) hx hy dX6_findsExact_220 (lN_i ((ex z.2.2 (z.2.2 i).2.1 + ex z.2.2 (z.2.2 i).2.2.1) - (2 * (((ex z.2.2 (z.2.2 i).2.1) * (ex z.2.2 (z.2.2 i).2.2.1)) / 65536)))) ?_
          refine aIsN F hI iX6_exact (i := i) (by omega) (by decide) dX6_findsExact_221 (fun H locs hI => ?_)
          obtain ⟨c64, ec64⟩ : ∃ z9 : CF, z9 = up c 47 i (nI ((ex z.2.2 (z.2.2 i).2.1 + ex z.2.2 (z.2.2 i).2.2.1) - (2 * (((ex z.2.2 (z.2.2 i).2.1) * (ex z.2.2 (z.2.2 i).2.2.1)) / 65536)))) := ⟨_, rfl⟩
          have hI : Iv E s H locs (c64, u.2) := by rw [ec64]; exact hI
          have kf65 : c64 41 (2 + 4 * i + 0) = nI 3 := by rw [ec64, up_at, if_neg (by omega)]; exact ((RowM.k hAc hiz).trans (congrArg nI hk3))
          have kf66 : c64 41 (2 + 4 * i + 1) = nI (z.2.2 i).2.1 := by rw [ec64, up_at, if_neg (by omega)]; exact ((RowM.w1 hAc hiz).trans (wM_1 (by rw [hk3]; decide)))
          have kf67 : c64 41 (2 + 4 * i + 2) = nI (z.2.2 i).2.2.1 := by rw [ec64, up_at, if_neg (by omega)]; exact ((RowM.w2 hAc hiz).trans (wM_2 (by rw [hk3]; decide)))
          have kf68 : c64 41 (2 + 4 * i + 3) = wM (z.2.2 i) 3 := by rw [ec64, up_at, if_neg (by omega)]; exact (RowM.w3 hAc hiz)
          refine lv_iinc (v := nI (i + 1)) (lv' := [(2, .int (nI (i + 1))), (12, .long (lN ((ex z.2.2 (z.2.2 i).2.1 + ex z.2.2 (z.2.2 i).2.2.1) - (2 * (((ex z.2.2 (z.2.2 i).2.1) * (ex z.2.2 (z.2.2 i).2.2.1)) / 65536))))), (10, .long (lN 0)), (8, .long (lN (((ex z.2.2 (z.2.2 i).2.1) * (ex z.2.2 (z.2.2 i).2.2.1)) / 65536))), (6, .long (lN (ex z.2.2 (z.2.2 i).2.2.1))), (4, .long (lN (ex z.2.2 (z.2.2 i).2.1))), (3, .int (nI 3)), (0, .ref (eA E 48)), (1, .int (nI j))]) hx hy dX6_findsExact_222 hl (k := 6) rfl (nI_add (i) 1) (by decide) rfl (fun ls hl => ?_)
          refine lv_goto (tgt := 2) hx hy dX6_findsExact_225 (by decide) ?_
          exact ih_2 (i + 1) c64 (by omega) (by omega) (exM_step hE (by rw [ec64, ex_eq hok]; simp [exS, hk3])) _ _ _ hI (lv_sub hl [0, 7, 8] rfl)
        · have hA1 := hok.2.2.1 (by omega)
          have hB1 := hok.2.2.2.1 (by omega) (by omega)
          have hC1 := hok.2.2.2.2.1 hk3
          have xA1 := hE.1 (z.2.2 i).2.1 hA1
          have lA1 := ex_le hz.2.2.2 (z.2.2 i).2.1 (by omega)
          have xB1 := hE.1 (z.2.2 i).2.2.1 hB1
          have lB1 := ex_le hz.2.2.2 (z.2.2 i).2.2.1 (by omega)
          have xC1 := hE.1 (z.2.2 i).2.2.2 hC1
          have lC1 := ex_le hz.2.2.2 (z.2.2 i).2.2.2 (by omega)
          have hab : ex z.2.2 (z.2.2 i).2.1 * ex z.2.2 (z.2.2 i).2.2.1 ≤ 65536 * 65536 := Nat.mul_le_mul lA1 lB1
          have p1 := pq_le (b := ex z.2.2 (z.2.2 i).2.2.1) lA1
          have p2 := pq_le2 (a := ex z.2.2 (z.2.2 i).2.1) lB1
          have hac : ex z.2.2 (z.2.2 i).2.1 * ex z.2.2 (z.2.2 i).2.2.2 ≤ 65536 * 65536 := Nat.mul_le_mul lA1 lC1
          have hbc : ex z.2.2 (z.2.2 i).2.2.1 * (65536 - ex z.2.2 (z.2.2 i).2.2.2) ≤ 65536 * 65536 := Nat.mul_le_mul lB1 (by omega)
          refine lv_aload_n hx hy dX6_findsExact_7 rfl (lv_at hl 1 rfl) ?_
          refine lv_iload_n hx hy dX6_findsExact_8 rfl (lv_at hl 0 rfl) ?_
          refine lv_iconst (v := nI 0) hx hy dX6_findsExact_9 (by decide) ?_
          refine zI hI (xV F hI hl (kX6_of l E ((c, u.2)) i 0 (by omega) (by omega)) M_X6_100 (rX6 F hI) rfl ⟨Nat.le_of_ble_eq_true rfl, Nat.le_of_ble_eq_true rfl⟩ ⟨Nat.zero_le _, Nat.zero_le _⟩ rfl (Nat.le_of_ble_eq_true rfl) dX6_findsExact_10) (fun r70 v71 H locs hI hp69 => ?_)
          subst hp69
          refine tI (show _ = c 41 (2 + 4 * i + 0) from rfl) ?_
          refine tI ((RowM.k hAc hiz).trans (congrArg nI hk3)) ?_
          refine lv_istore_n (lv' := [(3, .int (nI 4)), (2, .int (nI i)), (0, .ref (eA E 48)), (1, .int (nI j))]) hx hy dX6_findsExact_13 rfl hl (by decide) rfl (fun ls hl => ?_)
          refine lv_iload_n hx hy dX6_findsExact_14 rfl (lv_at hl 0 rfl) ?_
          refine lv_if_ne (tgt := 22) hx hy dX6_findsExact_15 (by decide) (fun _ => ?_) (fun q => absurd q (by decide))
          refine lv_aload_n hx hy dX6_findsExact_22 rfl (lv_at hl 2 rfl) ?_
          refine gX6_exact F hI L_X6_32 dX6_findsExact_23 ?_
          refine lv_aload_n hx hy dX6_findsExact_26 rfl (lv_at hl 2 rfl) ?_
          refine lv_iload_n hx hy dX6_findsExact_27 rfl (lv_at hl 1 rfl) ?_
          refine lv_iconst (v := nI 1) hx hy dX6_findsExact_28 (by decide) ?_
          refine zI hI (xV F hI hl (kX6_of l E ((c, u.2)) i 1 (by omega) (by omega)) M_X6_100 (rX6 F hI) rfl ⟨Nat.le_of_ble_eq_true rfl, Nat.le_of_ble_eq_true rfl⟩ ⟨Nat.zero_le _, Nat.zero_le _⟩ rfl (Nat.le_of_ble_eq_true rfl) dX6_findsExact_29) (fun r73 v74 H locs hI hp72 => ?_)
          subst hp72
          refine tI (show _ = c 41 (2 + 4 * i + 1) from rfl) ?_
          refine tI ((RowM.w1 hAc hiz).trans (wM_1 (by rw [hk3]; decide))) ?_
          refine aIlN F hI iX6_exact (i := (z.2.2 i).2.1) (by omega) (by decide) dX6_findsExact_32 ?_
          refine tI (show _ = c 47 ((z.2.2 i).2.1) from rfl) ?_
          refine tI xA1 ?_
          refine lv_i2l (v := lN (ex z.2.2 (z.2.2 i).2.1)) hx hy dX6_findsExact_33 (nI_l (by omega)) ?_
          refine lv_lstore (lv' := [(4, .long (lN (ex z.2.2 (z.2.2 i).2.1))), (3, .int (nI 4)), (2, .int (nI i)), (0, .ref (eA E 48)), (1, .int (nI j))]) hx hy dX6_findsExact_34 hl (by decide) rfl (fun ls hl => ?_)
          refine lv_iload_n hx hy dX6_findsExact_36 rfl (lv_at hl 1 rfl) ?_
          refine lv_i2l (v := lN (4)) hx hy dX6_findsExact_37 (nI_l (by omega)) ?_
          refine lv_lconst (v := lN 1) hx hy dX6_findsExact_38 (by decide) ?_
          refine zcl F K_X6_116 dX6_findsExact_39 ?_
          refine tL (show _ = lN 4 from rfl) ?_
          refine zI hI (xS F hI hl (kX6_in l E ((c, u.2)) (lN (4)) (lN 1) (lN 4)) M_X6_65 rfl ⟨Nat.le_of_ble_eq_true rfl, Nat.le_of_ble_eq_true rfl⟩ ⟨Nat.zero_le _, Nat.zero_le _⟩ rfl (Nat.le_of_ble_eq_true rfl) dX6_findsExact_42) (fun r76 v77 H locs hI hp75 => ?_)
          have hp75 : r76 = 1 := hp75.trans (if_pos (by decide))
          subst hp75
          refine lv_if_eq (tgt := 63) hx hy dX6_findsExact_45 (by decide) (fun q => absurd q (by decide)) (fun _ => ?_)
          refine lv_aload_n hx hy dX6_findsExact_48 rfl (lv_at hl 3 rfl) ?_
          refine gX6_exact F hI L_X6_32 dX6_findsExact_49 ?_
          refine lv_aload_n hx hy dX6_findsExact_52 rfl (lv_at hl 3 rfl) ?_
          refine lv_iload_n hx hy dX6_findsExact_53 rfl (lv_at hl 2 rfl) ?_
          refine lv_iconst (v := nI 2) hx hy dX6_findsExact_54 (by decide) ?_
          refine zI hI (xV F hI hl (kX6_of l E ((c, u.2)) i 2 (by omega) (by omega)) M_X6_100 (rX6 F hI) rfl ⟨Nat.le_of_ble_eq_true rfl, Nat.le_of_ble_eq_true rfl⟩ ⟨Nat.zero_le _, Nat.zero_le _⟩ rfl (Nat.le_of_ble_eq_true rfl) dX6_findsExact_55) (fun r79 v80 H locs hI hp78 => ?_)
          subst hp78
          refine tI (show _ = c 41 (2 + 4 * i + 2) from rfl) ?_
          refine tI ((RowM.w2 hAc hiz).trans (wM_2 (by rw [hk3]; decide))) ?_
          refine aIlN F hI iX6_exact (i := (z.2.2 i).2.2.1) (by omega) (by decide) dX6_findsExact_58 ?_
          refine tI (show _ = c 47 ((z.2.2 i).2.2.1) from rfl) ?_
          refine tI xB1 ?_
          refine lv_i2l (v := lN (ex z.2.2 (z.2.2 i).2.2.1)) hx hy dX6_findsExact_59 (nI_l (by omega)) ?_
          refine lv_goto (tgt := 64) hx hy dX6_findsExact_60 (by decide) ?_
          refine lv_lstore (lv' := [(6, .long (lN (ex z.2.2 (z.2.2 i).2.2.1))), (4, .long (lN (ex z.2.2 (z.2.2 i).2.1))), (3, .int (nI 4)), (2, .int (nI i)), (0, .ref (eA E 48)), (1, .int (nI j))]) hx hy dX6_findsExact_64 hl (by decide) rfl (fun ls hl => ?_)
          refine lv_lload hx hy dX6_findsExact_66 (lv_at hl 1 rfl) ?_
          refine lv_lload hx hy dX6_findsExact_68 (lv_at hl 0 rfl) ?_
          refine lv_lmul hx hy dX6_findsExact_70 ?_
          refine tL (lN_mul (ex z.2.2 (z.2.2 i).2.1) (ex z.2.2 (z.2.2 i).2.2.1)) ?_
          refine zcl F K_X6_118 dX6_findsExact_71 ?_
          refine tL (show _ = lN 65536 from rfl) ?_
          refine lv_ldiv hx hy dX6_findsExact_74 (by decide) ?_
          refine tL (pk_lDiv (a := (ex z.2.2 (z.2.2 i).2.1) * (ex z.2.2 (z.2.2 i).2.2.1)) (b := 65536) (by omega) (by omega) (by omega)) ?_
          refine lv_lstore (lv' := [(8, .long (lN (((ex z.2.2 (z.2.2 i).2.1) * (ex z.2.2 (z.2.2 i).2.2.1)) / 65536))), (6, .long (lN (ex z.2.2 (z.2.2 i).2.2.1))), (4, .long (lN (ex z.2.2 (z.2.2 i).2.1))), (3, .int (nI 4)), (2, .int (nI i)), (0, .ref (eA E 48)), (1, .int (nI j))]) hx hy dX6_findsExact_75 hl (by decide) rfl (fun ls hl => ?_)
          refine lv_iload_n hx hy dX6_findsExact_77 rfl (lv_at hl 3 rfl) ?_
          refine lv_iconst (v := nI 4) hx hy dX6_findsExact_78 (by decide) ?_
          refine lv_icmp_ne (tgt := 97) hx hy dX6_findsExact_79 (by decide) (fun q => absurd q (by decide)) (fun _ => ?_)
          refine lv_aload_n hx hy dX6_findsExact_82 rfl (lv_at hl 5 rfl) ?_
          refine gX6_exact F hI L_X6_32 dX6_findsExact_83 ?_
          refine lv_aload_n hx hy dX6_findsExact_86 rfl (lv_at hl 5 rfl) ?_
          refine lv_iload_n hx hy dX6_findsExact_87 rfl (lv_at hl 4 rfl) ?_
          refine lv_iconst (v := nI 3) hx hy dX6_findsExact_88 (by decide) ?_
          refine zI hI (xV F hI hl (kX6_of l E ((c, u.2)) i 3 (by omega) (by omega)) M_X6_100 (rX6 F hI) rfl ⟨Nat.le_of_ble_eq_true rfl, Nat.le_of_ble_eq_true rfl⟩ ⟨Nat.zero_le _, Nat.zero_le _⟩ rfl (Nat.le_of_ble_eq_true rfl) dX6_findsExact_89) (fun r82 v83 H locs hI hp81 => ?_)
          subst hp81
          refine tI (show _ = c 41 (2 + 4 * i + 3) from rfl) ?_
          refine tI ((RowM.w3 hAc hiz).trans (wM_3 (by rw [hk3]; decide))) ?_
          refine aIlN F hI iX6_exact (i := (z.2.2 i).2.2.2) (by omega) (by decide) dX6_findsExact_92 ?_
          refine tI (show _ = c 47 ((z.2.2 i).2.2.2) from rfl) ?_
          refine tI xC1 ?_
          refine lv_i2l (v := lN (ex z.2.2 (z.2.2 i).2.2.2)) hx hy dX6_findsExact_93 (nI_l (by omega)) ?_
          refine lv_goto (tgt := 98) hx hy dX6_findsExact_94 (by decide) ?_
          refine lv_lstore (lv' := [(10, .long (lN (ex z.2.2 (z.2.2 i).2.2.2))), (8, .long (lN (((ex z.2.2 (z.2.2 i).2.1) * (ex z.2.2 (z.2.2 i).2.2.1)) / 65536))), (6, .long (lN (ex z.2.2 (z.2.2 i).2.2.1))), (4, .long (lN (ex z.2.2 (z.2.2 i).2.1))), (3, .int (nI 4)), (2, .int (nI i)), (0, .ref (eA E 48)), (1, .int (nI j))]) hx hy dX6_findsExact_98 hl (by decide) rfl (fun ls hl => ?_)
          refine lv_iload_n hx hy dX6_findsExact_100 rfl (lv_at hl 4 rfl) ?_
          refine lv_iconst (v := nI 1) hx hy dX6_findsExact_101 (by decide) ?_
          refine lv_icmp_ne (tgt := 110) hx hy dX6_findsExact_102 (by decide) (fun _ => ?_) (fun q => absurd q (by decide))
          refine lv_iload_n hx hy dX6_findsExact_110 rfl (lv_at hl 4 rfl) ?_
          refine lv_iconst (v := nI 2) hx hy dX6_findsExact_111 (by decide) ?_
          refine lv_icmp_ne (tgt := 126) hx hy dX6_findsExact_112 (by decide) (fun _ => ?_) (fun q => absurd q (by decide))
          refine lv_iload_n hx hy dX6_findsExact_126 rfl (lv_at hl 4 rfl) ?_
          refine lv_iconst (v := nI 3) hx hy dX6_findsExact_127 (by decide) ?_
          refine lv_icmp_ne (tgt := 146) hx hy dX6_findsExact_128 (by decide) (fun _ => ?_) (fun q => absurd q (by decide))
          refine lv_iload_n hx hy dX6_findsExact_146 rfl (lv_at hl 4 rfl) ?_
          refine lv_iconst (v := nI 5) hx hy dX6_findsExact_147 (by decide) ?_
          refine lv_icmp_ne (tgt := 160) hx hy dX6_findsExact_148 (by decide) (fun _ => ?_) (fun q => absurd q (by decide))
          refine lv_lload hx hy dX6_findsExact_160 (lv_at hl 3 rfl) ?_
          refine lv_lstore (lv' := [(12, .long (lN (ex z.2.2 (z.2.2 i).2.1))), (10, .long (lN (ex z.2.2 (z.2.2 i).2.2.2))), (8, .long (lN (((ex z.2.2 (z.2.2 i).2.1) * (ex z.2.2 (z.2.2 i).2.2.1)) / 65536))), (6, .long (lN (ex z.2.2 (z.2.2 i).2.2.1))), (4, .long (lN (ex z.2.2 (z.2.2 i).2.1))), (3, .int (nI 4)), (2, .int (nI i)), (0, .ref (eA E 48)), (1, .int (nI j))]) hx hy dX6_findsExact_162 hl (by decide) rfl (fun ls hl => ?_)
          refine lv_iload_n hx hy dX6_findsExact_164 rfl (lv_at hl 5 rfl) ?_
          refine lv_if_ne (tgt := 182) hx hy dX6_findsExact_165 (by decide) (fun _ => ?_) (fun q => absurd q (by decide))
          refine lv_iload_n hx hy dX6_findsExact_182 rfl (lv_at hl 5 rfl) ?_
          refine lv_iconst (v := nI 4) hx hy dX6_findsExact_183 (by decide) ?_
          refine lv_icmp_ne (tgt := 209) hx hy dX6_findsExact_184 (by decide) (fun q => absurd q (by decide)) (fun _ => ?_)
          refine lv_lload hx hy dX6_findsExact_187 (lv_at hl 4 rfl) ?_
          refine lv_lload hx hy dX6_findsExact_189 (lv_at hl 1 rfl) ?_
          refine lv_lmul hx hy dX6_findsExact_191 ?_
          refine tL (lN_mul (ex z.2.2 (z.2.2 i).2.1) (ex z.2.2 (z.2.2 i).2.2.2)) ?_
          refine lv_lload hx hy dX6_findsExact_192 (lv_at hl 3 rfl) ?_
          refine zcl F K_X6_118 dX6_findsExact_194 ?_
          refine tL (show _ = lN 65536 from rfl) ?_
          refine lv_lload hx hy dX6_findsExact_197 (lv_at hl 1 rfl) ?_
          refine lv_lsub hx hy dX6_findsExact_199 ?_
          refine tL (lN_sub (a := 65536) (b := ex z.2.2 (z.2.2 i).2.2.2) (by omega)) ?_
          refine lv_lmul hx hy dX6_findsExact_200 ?_
          refine tL (lN_mul (ex z.2.2 (z.2.2 i).2.2.1) (65536 - (ex z.2.2 (z.2.2 i).2.2.2))) ?_
          refine lv_ladd hx hy dX6_findsExact_201 ?_
          refine tL (lN_add ((ex z.2.2 (z.2.2 i).2.1) * (ex z.2.2 (z.2.2 i).2.2.2)) ((ex z.2.2 (z.2.2 i).2.2.1) * (65536 - (ex z.2.2 (z.2.2 i).2.2.2)))) ?_
          refine zcl F K_X6_118 dX6_findsExact_202 ?_
          refine tL (show _ = lN 65536 from rfl) ?_
          refine lv_ldiv hx hy dX6_findsExact_205 (by decide) ?_
          refine tL (pk_lDiv (a := (ex z.2.2 (z.2.2 i).2.1) * (ex z.2.2 (z.2.2 i).2.2.2) + (ex z.2.2 (z.2.2 i).2.2.1) * (65536 - (ex z.2.2 (z.2.2 i).2.2.2))) (b := 65536) (by omega) (by omega) (by omega)) ?_
          refine lv_goto (tgt := 211) hx hy dX6_findsExact_206 (by decide) ?_
          refine lv_lstore (lv' := [(12, .long (lN (((ex z.2.2 (z.2.2 i).2.1) * (ex z.2.2 (z.2.2 i).2.2.2) + (ex z.2.2 (z.2.2 i).2.2.1) * (65536 - (ex z.2.2 (z.2.2 i).2.2.2))) / 65536))), (10, .long (lN (ex z.2.2 (z.2.2 i).2.2.2))), (8, .long (lN (((ex z.2.2 (z.2.2 i).2.1) * (ex z.2.2 (z.2.2 i).2.2.1)) / 65536))), (6, .long (lN (ex z.2.2 (z.2.2 i).2.2.1))), (4, .long (lN (ex z.2.2 (z.2.2 i).2.1))), (3, .int (nI 4)), (2, .int (nI i)), (0, .ref (eA E 48)), (1, .int (nI j))]) hx hy dX6_findsExact_211 hl (by decide) rfl (fun ls hl => ?_)
          refine lv_aload_n hx hy dX6_findsExact_213 rfl (lv_at hl 7 rfl) ?_
          refine gX6_exact F hI L_X6_32 dX6_findsExact_214 ?_
          refine lv_iload_n hx hy dX6_findsExact_217 rfl (lv_at hl 6 rfl) ?_
          refine lv_lload hx hy dX6_findsExact_218 (lv_at hl 0 rfl) ?_
          refine lv_l2i (v := nI (((ex z.2.2 (z.2.2 i).2.1) * (ex z.2.2 (z.2.2 i).2.2.2) + (ex z.2.2 (z.2.2 i).2.2.1) * (65536 - (ex z.2.2 (z.2.2 i).2.2.2))) / 65536)) hx hy dX6_findsExact_220 (lN_i (((ex z.2.2 (z.2.2 i).2.1) * (ex z.2.2 (z.2.2 i).2.2.2) + (ex z.2.2 (z.2.2 i).2.2.1) * (65536 - (ex z.2.2 (z.2.2 i).2.2.2))) / 65536)) ?_
          refine aIsN F hI iX6_exact (i := i) (by omega) (by decide) dX6_findsExact_221 (fun H locs hI => ?_)
          obtain ⟨c84, ec84⟩ : ∃ z9 : CF, z9 = up c 47 i (nI (((ex z.2.2 (z.2.2 i).2.1) * (ex z.2.2 (z.2.2 i).2.2.2) + (ex z.2.2 (z.2.2 i).2.2.1) * (65536 - (ex z.2.2 (z.2.2 i).2.2.2))) / 65536)) := ⟨_, rfl⟩
          have hI : Iv E s H locs (c84, u.2) := by rw [ec84]; exact hI
          have kf85 : c84 41 (2 + 4 * i + 0) = nI 4 := by rw [ec84, up_at, if_neg (by omega)]; exact ((RowM.k hAc hiz).trans (congrArg nI hk3))
          have kf86 : c84 41 (2 + 4 * i + 1) = nI (z.2.2 i).2.1 := by rw [ec84, up_at, if_neg (by omega)]; exact ((RowM.w1 hAc hiz).trans (wM_1 (by rw [hk3]; decide)))
          have kf87 : c84 41 (2 + 4 * i + 2) = nI (z.2.2 i).2.2.1 := by rw [ec84, up_at, if_neg (by omega)]; exact ((RowM.w2 hAc hiz).trans (wM_2 (by rw [hk3]; decide)))
          have kf88 : c84 41 (2 + 4 * i + 3) = nI (z.2.2 i).2.2.2 := by rw [ec84, up_at, if_neg (by omega)]; exact ((RowM.w3 hAc hiz).trans (wM_3 (by rw [hk3]; decide)))
          refine lv_iinc (v := nI (i + 1)) (lv' := [(2, .int (nI (i + 1))), (12, .long (lN (((ex z.2.2 (z.2.2 i).2.1) * (ex z.2.2 (z.2.2 i).2.2.2) + (ex z.2.2 (z.2.2 i).2.2.1) * (65536 - (ex z.2.2 (z.2.2 i).2.2.2))) / 65536))), (10, .long (lN (ex z.2.2 (z.2.2 i).2.2.2))), (8, .long (lN (((ex z.2.2 (z.2.2 i).2.1) * (ex z.2.2 (z.2.2 i).2.2.1)) / 65536))), (6, .long (lN (ex z.2.2 (z.2.2 i).2.2.1))), (4, .long (lN (ex z.2.2 (z.2.2 i).2.1))), (3, .int (nI 4)), (0, .ref (eA E 48)), (1, .int (nI j))]) hx hy dX6_findsExact_222 hl (k := 6) rfl (nI_add (i) 1) (by decide) rfl (fun ls hl => ?_)
          refine lv_goto (tgt := 2) hx hy dX6_findsExact_225 (by decide) ?_
          exact ih_2 (i + 1) c84 (by omega) (by omega) (exM_step hE (by rw [ec84, ex_eq hok]; simp [exS, hk3])) _ _ _ hI (lv_sub hl [0, 7, 8] rfl)
        · have hA1 := hok.2.2.1 (by omega)
          have xA1 := hE.1 (z.2.2 i).2.1 hA1
          have lA1 := ex_le hz.2.2.2 (z.2.2 i).2.1 (by omega)
          refine lv_aload_n hx hy dX6_findsExact_7 rfl (lv_at hl 1 rfl) ?_
          refine lv_iload_n hx hy dX6_findsExact_8 rfl (lv_at hl 0 rfl) ?_
          refine lv_iconst (v := nI 0) hx hy dX6_findsExact_9 (by decide) ?_
          refine zI hI (xV F hI hl (kX6_of l E ((c, u.2)) i 0 (by omega) (by omega)) M_X6_100 (rX6 F hI) rfl ⟨Nat.le_of_ble_eq_true rfl, Nat.le_of_ble_eq_true rfl⟩ ⟨Nat.zero_le _, Nat.zero_le _⟩ rfl (Nat.le_of_ble_eq_true rfl) dX6_findsExact_10) (fun r90 v91 H locs hI hp89 => ?_)
          subst hp89
          refine tI (show _ = c 41 (2 + 4 * i + 0) from rfl) ?_
          refine tI ((RowM.k hAc hiz).trans (congrArg nI hk3)) ?_
          refine lv_istore_n (lv' := [(3, .int (nI 5)), (2, .int (nI i)), (0, .ref (eA E 48)), (1, .int (nI j))]) hx hy dX6_findsExact_13 rfl hl (by decide) rfl (fun ls hl => ?_)
          refine lv_iload_n hx hy dX6_findsExact_14 rfl (lv_at hl 0 rfl) ?_
          refine lv_if_ne (tgt := 22) hx hy dX6_findsExact_15 (by decide) (fun _ => ?_) (fun q => absurd q (by decide))
          refine lv_aload_n hx hy dX6_findsExact_22 rfl (lv_at hl 2 rfl) ?_
          refine gX6_exact F hI L_X6_32 dX6_findsExact_23 ?_
          refine lv_aload_n hx hy dX6_findsExact_26 rfl (lv_at hl 2 rfl) ?_
          refine lv_iload_n hx hy dX6_findsExact_27 rfl (lv_at hl 1 rfl) ?_
          refine lv_iconst (v := nI 1) hx hy dX6_findsExact_28 (by decide) ?_
          refine zI hI (xV F hI hl (kX6_of l E ((c, u.2)) i 1 (by omega) (by omega)) M_X6_100 (rX6 F hI) rfl ⟨Nat.le_of_ble_eq_true rfl, Nat.le_of_ble_eq_true rfl⟩ ⟨Nat.zero_le _, Nat.zero_le _⟩ rfl (Nat.le_of_ble_eq_true rfl) dX6_findsExact_29) (fun r93 v94 H locs hI hp92 => ?_)
          subst hp92
          refine tI (show _ = c 41 (2 + 4 * i + 1) from rfl) ?_
          refine tI ((RowM.w1 hAc hiz).trans (wM_1 (by rw [hk3]; decide))) ?_
          refine aIlN F hI iX6_exact (i := (z.2.2 i).2.1) (by omega) (by decide) dX6_findsExact_32 ?_
          refine tI (show _ = c 47 ((z.2.2 i).2.1) from rfl) ?_
          refine tI xA1 ?_
          refine lv_i2l (v := lN (ex z.2.2 (z.2.2 i).2.1)) hx hy dX6_findsExact_33 (nI_l (by omega)) ?_
          refine lv_lstore (lv' := [(4, .long (lN (ex z.2.2 (z.2.2 i).2.1))), (3, .int (nI 5)), (2, .int (nI i)), (0, .ref (eA E 48)), (1, .int (nI j))]) hx hy dX6_findsExact_34 hl (by decide) rfl (fun ls hl => ?_)
          refine lv_iload_n hx hy dX6_findsExact_36 rfl (lv_at hl 1 rfl) ?_
          refine lv_i2l (v := lN (5)) hx hy dX6_findsExact_37 (nI_l (by omega)) ?_
          refine lv_lconst (v := lN 1) hx hy dX6_findsExact_38 (by decide) ?_
          refine zcl F K_X6_116 dX6_findsExact_39 ?_
          refine tL (show _ = lN 4 from rfl) ?_
          refine zI hI (xS F hI hl (kX6_in l E ((c, u.2)) (lN (5)) (lN 1) (lN 4)) M_X6_65 rfl ⟨Nat.le_of_ble_eq_true rfl, Nat.le_of_ble_eq_true rfl⟩ ⟨Nat.zero_le _, Nat.zero_le _⟩ rfl (Nat.le_of_ble_eq_true rfl) dX6_findsExact_42) (fun r96 v97 H locs hI hp95 => ?_)
          have hp95 : r96 = 0 := hp95.trans (if_neg (by decide))
          subst hp95
          refine lv_if_eq (tgt := 63) hx hy dX6_findsExact_45 (by decide) (fun _ => ?_) (fun q => absurd q (by decide))
          refine lv_lconst (v := lN 0) hx hy dX6_findsExact_63 (by decide) ?_
          refine lv_lstore (lv' := [(6, .long (lN 0)), (4, .long (lN (ex z.2.2 (z.2.2 i).2.1))), (3, .int (nI 5)), (2, .int (nI i)), (0, .ref (eA E 48)), (1, .int (nI j))]) hx hy dX6_findsExact_64 hl (by decide) rfl (fun ls hl => ?_)
          refine lv_lload hx hy dX6_findsExact_66 (lv_at hl 1 rfl) ?_
          refine lv_lload hx hy dX6_findsExact_68 (lv_at hl 0 rfl) ?_
          refine lv_lmul hx hy dX6_findsExact_70 ?_
          refine tL (lN_mul (ex z.2.2 (z.2.2 i).2.1) (0)) ?_
          refine zcl F K_X6_118 dX6_findsExact_71 ?_
          refine tL (show _ = lN 65536 from rfl) ?_
          refine lv_ldiv hx hy dX6_findsExact_74 (by decide) ?_
          refine tL (pk_lDiv (a := (ex z.2.2 (z.2.2 i).2.1) * 0) (b := 65536) (by omega) (by omega) (by omega)) ?_
          refine lv_lstore (lv' := [(8, .long (lN (((ex z.2.2 (z.2.2 i).2.1) * 0) / 65536))), (6, .long (lN 0)), (4, .long (lN (ex z.2.2 (z.2.2 i).2.1))), (3, .int (nI 5)), (2, .int (nI i)), (0, .ref (eA E 48)), (1, .int (nI j))]) hx hy dX6_findsExact_75 hl (by decide) rfl (fun ls hl => ?_)
          refine lv_iload_n hx hy dX6_findsExact_77 rfl (lv_at hl 3 rfl) ?_
          refine lv_iconst (v := nI 4) hx hy dX6_findsExact_78 (by decide) ?_
          refine lv_icmp_ne (tgt := 97) hx hy dX6_findsExact_79 (by decide) (fun _ => ?_) (fun q => absurd q (by decide))
          refine lv_lconst (v := lN 0) hx hy dX6_findsExact_97 (by decide) ?_
          refine lv_lstore (lv' := [(10, .long (lN 0)), (8, .long (lN (((ex z.2.2 (z.2.2 i).2.1) * 0) / 65536))), (6, .long (lN 0)), (4, .long (lN (ex z.2.2 (z.2.2 i).2.1))), (3, .int (nI 5)), (2, .int (nI i)), (0, .ref (eA E 48)), (1, .int (nI j))]) hx hy dX6_findsExact_98 hl (by decide) rfl (fun ls hl => ?_)
          refine lv_iload_n hx hy dX6_findsExact_100 rfl (lv_at hl 4 rfl) ?_
          refine lv_iconst (v := nI 1) hx hy dX6_findsExact_101 (by decide) ?_
          refine lv_icmp_ne (tgt := 110) hx hy dX6_findsExact_102 (by decide) (fun _ => ?_) (fun q => absurd q (by decide))
          refine lv_iload_n hx hy dX6_findsExact_110 rfl (lv_at hl 4 rfl) ?_
          refine lv_iconst (v := nI 2) hx hy dX6_findsExact_111 (by decide) ?_
          refine lv_icmp_ne (tgt := 126) hx hy dX6_findsExact_112 (by decide) (fun _ => ?_) (fun q => absurd q (by decide))
          refine lv_iload_n hx hy dX6_findsExact_126 rfl (lv_at hl 4 rfl) ?_
          refine lv_iconst (v := nI 3) hx hy dX6_findsExact_127 (by decide) ?_
          refine lv_icmp_ne (tgt := 146) hx hy dX6_findsExact_128 (by decide) (fun _ => ?_) (fun q => absurd q (by decide))
          refine lv_iload_n hx hy dX6_findsExact_146 rfl (lv_at hl 4 rfl) ?_
          refine lv_iconst (v := nI 5) hx hy dX6_findsExact_147 (by decide) ?_
          refine lv_icmp_ne (tgt := 160) hx hy dX6_findsExact_148 (by decide) (fun q => absurd q (by decide)) (fun _ => ?_)
          refine zcl F K_X6_118 dX6_findsExact_151 ?_
          refine tL (show _ = lN 65536 from rfl) ?_
          refine lv_lload hx hy dX6_findsExact_154 (lv_at hl 3 rfl) ?_
          refine lv_lsub hx hy dX6_findsExact_156 ?_
          refine tL (lN_sub (a := 65536) (b := ex z.2.2 (z.2.2 i).2.1) (by omega)) ?_
          refine lv_goto (tgt := 162) hx hy dX6_findsExact_157 (by decide) ?_
          refine lv_lstore (lv' := [(12, .long (lN (65536 - (ex z.2.2 (z.2.2 i).2.1)))), (10, .long (lN 0)), (8, .long (lN (((ex z.2.2 (z.2.2 i).2.1) * 0) / 65536))), (6, .long (lN 0)), (4, .long (lN (ex z.2.2 (z.2.2 i).2.1))), (3, .int (nI 5)), (2, .int (nI i)), (0, .ref (eA E 48)), (1, .int (nI j))]) hx hy dX6_findsExact_162 hl (by decide) rfl (fun ls hl => ?_)
          refine lv_iload_n hx hy dX6_findsExact_164 rfl (lv_at hl 5 rfl) ?_
          refine lv_if_ne (tgt := 182) hx hy dX6_findsExact_165 (by decide) (fun _ => ?_) (fun q => absurd q (by decide))
          refine lv_iload_n hx hy dX6_findsExact_182 rfl (lv_at hl 5 rfl) ?_
          refine lv_iconst (v := nI 4) hx hy dX6_findsExact_183 (by decide) ?_
          refine lv_icmp_ne (tgt := 209) hx hy dX6_findsExact_184 (by decide) (fun _ => ?_) (fun q => absurd q (by decide))
          refine lv_lload hx hy dX6_findsExact_209 (lv_at hl 0 rfl) ?_
          refine lv_lstore (lv' := [(12, .long (lN (65536 - (ex z.2.2 (z.2.2 i).2.1)))), (10, .long (lN 0)), (8, .long (lN (((ex z.2.2 (z.2.2 i).2.1) * 0) / 65536))), (6, .long (lN 0)), (4, .long (lN (ex z.2.2 (z.2.2 i).2.1))), (3, .int (nI 5)), (2, .int (nI i)), (0, .ref (eA E 48)), (1, .int (nI j))]) hx hy dX6_findsExact_211 hl (by decide) rfl (fun ls hl => ?_)
          refine lv_aload_n hx hy dX6_findsExact_213 rfl (lv_at hl 7 rfl) ?_
          refine gX6_exact F hI L_X6_32 dX6_findsExact_214 ?_
          refine lv_iload_n hx hy dX6_findsExact_217 rfl (lv_at hl 6 rfl) ?_
          refine lv_lload hx hy dX6_findsExact_218 (lv_at hl 0 rfl) ?_
          refine lv_l2i (v := nI (65536 - (ex z.2.2 (z.2.2 i).2.1))) hx hy dX6_findsExact_220 (lN_i (65536 - (ex z.2.2 (z.2.2 i).2.1))) ?_
          refine aIsN F hI iX6_exact (i := i) (by omega) (by decide) dX6_findsExact_221 (fun H locs hI => ?_)
          obtain ⟨c98, ec98⟩ : ∃ z9 : CF, z9 = up c 47 i (nI (65536 - (ex z.2.2 (z.2.2 i).2.1))) := ⟨_, rfl⟩
          have hI : Iv E s H locs (c98, u.2) := by rw [ec98]; exact hI
          have kf99 : c98 41 (2 + 4 * i + 0) = nI 5 := by rw [ec98, up_at, if_neg (by omega)]; exact ((RowM.k hAc hiz).trans (congrArg nI hk3))
          have kf100 : c98 41 (2 + 4 * i + 1) = nI (z.2.2 i).2.1 := by rw [ec98, up_at, if_neg (by omega)]; exact ((RowM.w1 hAc hiz).trans (wM_1 (by rw [hk3]; decide)))
          have kf101 : c98 41 (2 + 4 * i + 2) = wM (z.2.2 i) 2 := by rw [ec98, up_at, if_neg (by omega)]; exact (RowM.w2 hAc hiz)
          have kf102 : c98 41 (2 + 4 * i + 3) = wM (z.2.2 i) 3 := by rw [ec98, up_at, if_neg (by omega)]; exact (RowM.w3 hAc hiz)
          refine lv_iinc (v := nI (i + 1)) (lv' := [(2, .int (nI (i + 1))), (12, .long (lN (65536 - (ex z.2.2 (z.2.2 i).2.1)))), (10, .long (lN 0)), (8, .long (lN (((ex z.2.2 (z.2.2 i).2.1) * 0) / 65536))), (6, .long (lN 0)), (4, .long (lN (ex z.2.2 (z.2.2 i).2.1))), (3, .int (nI 5)), (0, .ref (eA E 48)), (1, .int (nI j))]) hx hy dX6_findsExact_222 hl (k := 6) rfl (nI_add (i) 1) (by decide) rfl (fun ls hl => ?_)
          refine lv_goto (tgt := 2) hx hy dX6_findsExact_225 (by decide) ?_
          exact ih_2 (i + 1) c98 (by omega) (by omega) (exM_step hE (by rw [ec98, ex_eq hok]; simp [exS, hk3])) _ _ _ hI (lv_sub hl [0, 7, 8] rfl)
        · have hA1 := hok.2.2.1 (by omega)
          have hD1 := hok.2.2.2.2.2.1 hk3
          have xA1 := hE.1 (z.2.2 i).2.1 hA1
          have lA1 := ex_le hz.2.2.2 (z.2.2 i).2.1 (by omega)
          refine lv_aload_n hx hy dX6_findsExact_7 rfl (lv_at hl 1 rfl) ?_
          refine lv_iload_n hx hy dX6_findsExact_8 rfl (lv_at hl 0 rfl) ?_
          refine lv_iconst (v := nI 0) hx hy dX6_findsExact_9 (by decide) ?_
          refine zI hI (xV F hI hl (kX6_of l E ((c, u.2)) i 0 (by omega) (by omega)) M_X6_100 (rX6 F hI) rfl ⟨Nat.le_of_ble_eq_true rfl, Nat.le_of_ble_eq_true rfl⟩ ⟨Nat.zero_le _, Nat.zero_le _⟩ rfl (Nat.le_of_ble_eq_true rfl) dX6_findsExact_10) (fun r104 v105 H locs hI hp103 => ?_)
          subst hp103
          refine tI (show _ = c 41 (2 + 4 * i + 0) from rfl) ?_
          refine tI ((RowM.k hAc hiz).trans (congrArg nI hk3)) ?_
          refine lv_istore_n (lv' := [(3, .int (nI 6)), (2, .int (nI i)), (0, .ref (eA E 48)), (1, .int (nI j))]) hx hy dX6_findsExact_13 rfl hl (by decide) rfl (fun ls hl => ?_)
          refine lv_iload_n hx hy dX6_findsExact_14 rfl (lv_at hl 0 rfl) ?_
          refine lv_if_ne (tgt := 22) hx hy dX6_findsExact_15 (by decide) (fun _ => ?_) (fun q => absurd q (by decide))
          refine lv_aload_n hx hy dX6_findsExact_22 rfl (lv_at hl 2 rfl) ?_
          refine gX6_exact F hI L_X6_32 dX6_findsExact_23 ?_
          refine lv_aload_n hx hy dX6_findsExact_26 rfl (lv_at hl 2 rfl) ?_
          refine lv_iload_n hx hy dX6_findsExact_27 rfl (lv_at hl 1 rfl) ?_
          refine lv_iconst (v := nI 1) hx hy dX6_findsExact_28 (by decide) ?_
          refine zI hI (xV F hI hl (kX6_of l E ((c, u.2)) i 1 (by omega) (by omega)) M_X6_100 (rX6 F hI) rfl ⟨Nat.le_of_ble_eq_true rfl, Nat.le_of_ble_eq_true rfl⟩ ⟨Nat.zero_le _, Nat.zero_le _⟩ rfl (Nat.le_of_ble_eq_true rfl) dX6_findsExact_29) (fun r107 v108 H locs hI hp106 => ?_)
          subst hp106
          refine tI (show _ = c 41 (2 + 4 * i + 1) from rfl) ?_
          refine tI ((RowM.w1 hAc hiz).trans (wM_1 (by rw [hk3]; decide))) ?_
          refine aIlN F hI iX6_exact (i := (z.2.2 i).2.1) (by omega) (by decide) dX6_findsExact_32 ?_
          refine tI (show _ = c 47 ((z.2.2 i).2.1) from rfl) ?_
          refine tI xA1 ?_
          refine lv_i2l (v := lN (ex z.2.2 (z.2.2 i).2.1)) hx hy dX6_findsExact_33 (nI_l (by omega)) ?_
          refine lv_lstore (lv' := [(4, .long (lN (ex z.2.2 (z.2.2 i).2.1))), (3, .int (nI 6)), (2, .int (nI i)), (0, .ref (eA E 48)), (1, .int (nI j))]) hx hy dX6_findsExact_34 hl (by decide) rfl (fun ls hl => ?_)
          refine lv_iload_n hx hy dX6_findsExact_36 rfl (lv_at hl 1 rfl) ?_
          refine lv_i2l (v := lN (6)) hx hy dX6_findsExact_37 (nI_l (by omega)) ?_
          refine lv_lconst (v := lN 1) hx hy dX6_findsExact_38 (by decide) ?_
          refine zcl F K_X6_116 dX6_findsExact_39 ?_
          refine tL (show _ = lN 4 from rfl) ?_
          refine zI hI (xS F hI hl (kX6_in l E ((c, u.2)) (lN (6)) (lN 1) (lN 4)) M_X6_65 rfl ⟨Nat.le_of_ble_eq_true rfl, Nat.le_of_ble_eq_true rfl⟩ ⟨Nat.zero_le _, Nat.zero_le _⟩ rfl (Nat.le_of_ble_eq_true rfl) dX6_findsExact_42) (fun r110 v111 H locs hI hp109 => ?_)
          have hp109 : r110 = 0 := hp109.trans (if_neg (by decide))
          subst hp109
          refine lv_if_eq (tgt := 63) hx hy dX6_findsExact_45 (by decide) (fun _ => ?_) (fun q => absurd q (by decide))
          refine lv_lconst (v := lN 0) hx hy dX6_findsExact_63 (by decide) ?_
          refine lv_lstore (lv' := [(6, .long (lN 0)), (4, .long (lN (ex z.2.2 (z.2.2 i).2.1))), (3, .int (nI 6)), (2, .int (nI i)), (0, .ref (eA E 48)), (1, .int (nI j))]) hx hy dX6_findsExact_64 hl (by decide) rfl (fun ls hl => ?_)
          refine lv_lload hx hy dX6_findsExact_66 (lv_at hl 1 rfl) ?_
          refine lv_lload hx hy dX6_findsExact_68 (lv_at hl 0 rfl) ?_
          refine lv_lmul hx hy dX6_findsExact_70 ?_
          refine tL (lN_mul (ex z.2.2 (z.2.2 i).2.1) (0)) ?_
          refine zcl F K_X6_118 dX6_findsExact_71 ?_
          refine tL (show _ = lN 65536 from rfl) ?_
          refine lv_ldiv hx hy dX6_findsExact_74 (by decide) ?_
          refine tL (pk_lDiv (a := (ex z.2.2 (z.2.2 i).2.1) * 0) (b := 65536) (by omega) (by omega) (by omega)) ?_
          refine lv_lstore (lv' := [(8, .long (lN (((ex z.2.2 (z.2.2 i).2.1) * 0) / 65536))), (6, .long (lN 0)), (4, .long (lN (ex z.2.2 (z.2.2 i).2.1))), (3, .int (nI 6)), (2, .int (nI i)), (0, .ref (eA E 48)), (1, .int (nI j))]) hx hy dX6_findsExact_75 hl (by decide) rfl (fun ls hl => ?_)
          refine lv_iload_n hx hy dX6_findsExact_77 rfl (lv_at hl 3 rfl) ?_
          refine lv_iconst (v := nI 4) hx hy dX6_findsExact_78 (by decide) ?_
          refine lv_icmp_ne (tgt := 97) hx hy dX6_findsExact_79 (by decide) (fun _ => ?_) (fun q => absurd q (by decide))
          refine lv_lconst (v := lN 0) hx hy dX6_findsExact_97 (by decide) ?_
          refine lv_lstore (lv' := [(10, .long (lN 0)), (8, .long (lN (((ex z.2.2 (z.2.2 i).2.1) * 0) / 65536))), (6, .long (lN 0)), (4, .long (lN (ex z.2.2 (z.2.2 i).2.1))), (3, .int (nI 6)), (2, .int (nI i)), (0, .ref (eA E 48)), (1, .int (nI j))]) hx hy dX6_findsExact_98 hl (by decide) rfl (fun ls hl => ?_)
          refine lv_iload_n hx hy dX6_findsExact_100 rfl (lv_at hl 4 rfl) ?_
          refine lv_iconst (v := nI 1) hx hy dX6_findsExact_101 (by decide) ?_
          refine lv_icmp_ne (tgt := 110) hx hy dX6_findsExact_102 (by decide) (fun _ => ?_) (fun q => absurd q (by decide))
          refine lv_iload_n hx hy dX6_findsExact_110 rfl (lv_at hl 4 rfl) ?_
          refine lv_iconst (v := nI 2) hx hy dX6_findsExact_111 (by decide) ?_
          refine lv_icmp_ne (tgt := 126) hx hy dX6_findsExact_112 (by decide) (fun _ => ?_) (fun q => absurd q (by decide))
          refine lv_iload_n hx hy dX6_findsExact_126 rfl (lv_at hl 4 rfl) ?_
          refine lv_iconst (v := nI 3) hx hy dX6_findsExact_127 (by decide) ?_
          refine lv_icmp_ne (tgt := 146) hx hy dX6_findsExact_128 (by decide) (fun _ => ?_) (fun q => absurd q (by decide))
          refine lv_iload_n hx hy dX6_findsExact_146 rfl (lv_at hl 4 rfl) ?_
          refine lv_iconst (v := nI 5) hx hy dX6_findsExact_147 (by decide) ?_
          refine lv_icmp_ne (tgt := 160) hx hy dX6_findsExact_148 (by decide) (fun _ => ?_) (fun q => absurd q (by decide))
          refine lv_lload hx hy dX6_findsExact_160 (lv_at hl 3 rfl) ?_
          refine lv_lstore (lv' := [(12, .long (lN (ex z.2.2 (z.2.2 i).2.1))), (10, .long (lN 0)), (8, .long (lN (((ex z.2.2 (z.2.2 i).2.1) * 0) / 65536))), (6, .long (lN 0)), (4, .long (lN (ex z.2.2 (z.2.2 i).2.1))), (3, .int (nI 6)), (2, .int (nI i)), (0, .ref (eA E 48)), (1, .int (nI j))]) hx hy dX6_findsExact_162 hl (by decide) rfl (fun ls hl => ?_)
          refine lv_iload_n hx hy dX6_findsExact_164 rfl (lv_at hl 5 rfl) ?_
          refine lv_if_ne (tgt := 182) hx hy dX6_findsExact_165 (by decide) (fun _ => ?_) (fun q => absurd q (by decide))
          refine lv_iload_n hx hy dX6_findsExact_182 rfl (lv_at hl 5 rfl) ?_
          refine lv_iconst (v := nI 4) hx hy dX6_findsExact_183 (by decide) ?_
          refine lv_icmp_ne (tgt := 209) hx hy dX6_findsExact_184 (by decide) (fun _ => ?_) (fun q => absurd q (by decide))
          refine lv_lload hx hy dX6_findsExact_209 (lv_at hl 0 rfl) ?_
          refine lv_lstore (lv' := [(12, .long (lN (ex z.2.2 (z.2.2 i).2.1))), (10, .long (lN 0)), (8, .long (lN (((ex z.2.2 (z.2.2 i).2.1) * 0) / 65536))), (6, .long (lN 0)), (4, .long (lN (ex z.2.2 (z.2.2 i).2.1))), (3, .int (nI 6)), (2, .int (nI i)), (0, .ref (eA E 48)), (1, .int (nI j))]) hx hy dX6_findsExact_211 hl (by decide) rfl (fun ls hl => ?_)
          refine lv_aload_n hx hy dX6_findsExact_213 rfl (lv_at hl 7 rfl) ?_
          refine gX6_exact F hI L_X6_32 dX6_findsExact_214 ?_
          refine lv_iload_n hx hy dX6_findsExact_217 rfl (lv_at hl 6 rfl) ?_
          refine lv_lload hx hy dX6_findsExact_218 (lv_at hl 0 rfl) ?_
          refine lv_l2i (v := nI (ex z.2.2 (z.2.2 i).2.1)) hx hy dX6_findsExact_220 (lN_i (ex z.2.2 (z.2.2 i).2.1)) ?_
          refine aIsN F hI iX6_exact (i := i) (by omega) (by decide) dX6_findsExact_221 (fun H locs hI => ?_)
          obtain ⟨c112, ec112⟩ : ∃ z9 : CF, z9 = up c 47 i (nI (ex z.2.2 (z.2.2 i).2.1)) := ⟨_, rfl⟩
          have hI : Iv E s H locs (c112, u.2) := by rw [ec112]; exact hI
          have kf113 : c112 41 (2 + 4 * i + 0) = nI 6 := by rw [ec112, up_at, if_neg (by omega)]; exact ((RowM.k hAc hiz).trans (congrArg nI hk3))
          have kf114 : c112 41 (2 + 4 * i + 1) = nI (z.2.2 i).2.1 := by rw [ec112, up_at, if_neg (by omega)]; exact ((RowM.w1 hAc hiz).trans (wM_1 (by rw [hk3]; decide)))
          have kf115 : c112 41 (2 + 4 * i + 2) = nI (z.2.2 i).2.2.1 := by rw [ec112, up_at, if_neg (by omega)]; exact ((RowM.w2 hAc hiz).trans (wM_2 (by rw [hk3]; decide)))
          have kf116 : c112 41 (2 + 4 * i + 3) = wM (z.2.2 i) 3 := by rw [ec112, up_at, if_neg (by omega)]; exact (RowM.w3 hAc hiz)
          refine lv_iinc (v := nI (i + 1)) (lv' := [(2, .int (nI (i + 1))), (12, .long (lN (ex z.2.2 (z.2.2 i).2.1))), (10, .long (lN 0)), (8, .long (lN (((ex z.2.2 (z.2.2 i).2.1) * 0) / 65536))), (6, .long (lN 0)), (4, .long (lN (ex z.2.2 (z.2.2 i).2.1))), (3, .int (nI 6)), (0, .ref (eA E 48)), (1, .int (nI j))]) hx hy dX6_findsExact_222 hl (k := 6) rfl (nI_add (i) 1) (by decide) rfl (fun ls hl => ?_)
          refine lv_goto (tgt := 2) hx hy dX6_findsExact_225 (by decide) ?_
          exact ih_2 (i + 1) c112 (by omega) (by omega) (exM_step hE (by rw [ec112, ex_eq hok]; simp [exS, hk3])) _ _ _ hI (lv_sub hl [0, 7, 8] rfl)
  exact lp1 (j + 2) 0 u.1 (by omega) (by omega) ⟨fun a ha => absurd ha (Nat.not_lt_zero a), fun _ _ _ => rfl⟩ _ _ _ hI (lv_sub hl [0, 1, 2] rfl)
