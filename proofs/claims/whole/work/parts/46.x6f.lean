set_option maxHeartbeats 400000 in
set_option maxRecDepth 100000 in
theorem kX6_manySources (l : Launch) (E : EV) (u : SS) {X : XS} (hC : RepM u.1 X) (hX : XOk X) : CT l yX6_manySources cX6_manySources 3 (some .int) (Rm 1 22) [.ref (eA E 48)] E u (Q_i E (fun r c => r = nI (fb_ct (fun j => decide ((X.1.2.2 j).1 = 0)) X.1.1) ∧ ScrM u.1 c) (fun (c : CF) => (c, u.2))) := by
  refine mstart RX6 (by decide +kernel) rfl (Nat.le_of_ble_eq_true rfl) ?_
  intro p e s m args below meth co ls Q hQ F hI hl
  have hx := F.1
  have hy := F.2.1
  have hl : lv_has ls 3 [(0, .ref (eA E 48))] := hl
  have hC2 := hC
  obtain ⟨hA, hH, hS, hT⟩ := hC2
  have hn16 := hX.1.1
  have hl1 := hX.1.2.1
  have hl2 := hX.1.2.2.1
  have hh4 := hX.2.1.1
  have hs1 := hX.2.2.1.1
  have ht80 := hX.2.2.2.1
  refine lv_iconst (v := nI 0) hx hy dX6_manySources_0 (by decide) ?_
  refine lv_istore_n (lv' := [(1, .int (nI 0)), (0, .ref (eA E 48))]) hx hy dX6_manySources_1 rfl hl (by decide) rfl (fun ls hl => ?_)
  refine lv_iconst (v := nI 0) hx hy dX6_manySources_2 (by decide) ?_
  refine lv_istore_n (lv' := [(2, .int (nI 0)), (1, .int (nI 0)), (0, .ref (eA E 48))]) hx hy dX6_manySources_3 rfl hl (by decide) rfl (fun ls hl => ?_)
  have lp1 : ∀ (fu : Nat) (i : Nat), (i ≤ X.1.1) → (X.1.1 - i < fu) →  ∀ (H : Heap) (locs : List Loc) (ls : Array Slot), Iv E s H locs (u) → lv_has ls 3 [(2, .int (nI i)), (1, .int (nI (fb_ct (fun j => decide ((X.1.2.2 j).1 = 0)) i))), (0, .ref (eA E 48))] → W p l e (Rm 1 22) s m args below meth co H locs 0 0 Q (F0 m 4 ls []) := by
    intro fu
    induction fu with
    | zero => intro i hi hf; exact absurd hf (Nat.not_lt_zero _)
    | succ fu ih =>
      intro i hi hf H locs ls hI hl
      have ih_4 := ih
      refine lv_iload_n hx hy dX6_manySources_4 rfl (lv_at hl 0 rfl) ?_
      refine lv_aload_n hx hy dX6_manySources_5 rfl (lv_at hl 2 rfl) ?_
      refine gX6_all F hI L_X6_7 dX6_manySources_6 ?_
      refine lv_iconst (v := nI 0) hx hy dX6_manySources_9 (by decide) ?_
      refine aIlN F hI iX6_all (i := 0) (by omega) (by decide) dX6_manySources_10 ?_
      refine tI hA.1 ?_
      refine lv_icmp_ge (tgt := 37) hx hy dX6_manySources_11 (by decide) (fun h2 => ?_) (fun h2 => ?_)
      · have h2 : X.1.1 ≤ i := (nI_leI (a := X.1.1) (b := i) (by omega) (by omega)).mp h2
        refine lv_iload_n hx hy dX6_manySources_37 rfl (lv_at hl 1 rfl) ?_
        exact rI hQ F (v := u.1) hI dX6_manySources_38 ⟨by rw [show i = X.1.1 from by omega], ScrM.rf _⟩
      · have h2 : i < X.1.1 := Nat.lt_of_not_le (fun q9 => h2 ((nI_leI (a := X.1.1) (b := i) (by omega) (by omega)).mpr q9))
        have hiz : i < X.1.1 := by omega
        have hik := (hX.1.2.2.2 i hiz).1
        refine lv_iload_n hx hy dX6_manySources_14 rfl (lv_at hl 1 rfl) ?_
        refine lv_aload_n hx hy dX6_manySources_15 rfl (lv_at hl 2 rfl) ?_
        refine lv_iload_n hx hy dX6_manySources_16 rfl (lv_at hl 0 rfl) ?_
        refine lv_iconst (v := nI 0) hx hy dX6_manySources_17 (by decide) ?_
        refine zI hI (xV F hI hl (kX6_of l E (u) i 0 (by omega) (by omega)) M_X6_100 (rX6 F hI) rfl ⟨Nat.le_of_ble_eq_true rfl, Nat.le_of_ble_eq_true rfl⟩ ⟨Nat.zero_le _, Nat.zero_le _⟩ rfl (Nat.le_of_ble_eq_true rfl) dX6_manySources_18) (fun r4 v5 H locs hI hp3 => ?_)
        subst hp3
        refine tI (RowM.k hA hiz) ?_
        refine lv_if_ne (tgt := 28) hx hy dX6_manySources_21 (by decide) (fun h6 => ?_) (fun h6 => ?_)
        · have h6 : (X.1.2.2 i).1 ≠ 0 := fun q9 => h6 ((nI_eq (a := (X.1.2.2 i).1) (b := 0) (by omega) (by omega)).mpr q9)
          refine lv_iconst (v := nI 0) hx hy dX6_manySources_28 (by decide) ?_
          refine lv_iadd hx hy dX6_manySources_29 ?_
          refine tI (nI_add (fb_ct (fun j => decide ((X.1.2.2 j).1 = 0)) i) (0)) ?_
          refine tI (show _ = nI (fb_ct (fun j => decide ((X.1.2.2 j).1 = 0)) (i + 1)) from by rw [fb_ct_succ, if_neg (by simpa using h6)]) ?_
          refine lv_istore_n (lv' := [(1, .int (nI (fb_ct (fun j => decide ((X.1.2.2 j).1 = 0)) (i + 1)))), (2, .int (nI i)), (0, .ref (eA E 48))]) hx hy dX6_manySources_30 rfl hl (by decide) rfl (fun ls hl => ?_)
          refine lv_iinc (v := nI (i + 1)) (lv' := [(2, .int (nI (i + 1))), (1, .int (nI (fb_ct (fun j => decide ((X.1.2.2 j).1 = 0)) (i + 1)))), (0, .ref (eA E 48))]) hx hy dX6_manySources_31 hl (k := 1) rfl (nI_add (i) 1) (by decide) rfl (fun ls hl => ?_)
          refine lv_goto (tgt := 4) hx hy dX6_manySources_34 (by decide) ?_
          exact ih_4 (i + 1) (by omega) (by omega) _ _ _ hI (lv_sub hl [0, 1, 2] rfl)
        · have h6 : (X.1.2.2 i).1 = 0 := (nI_eq (a := (X.1.2.2 i).1) (b := 0) (by omega) (by omega)).mp h6
          refine lv_iconst (v := nI 1) hx hy dX6_manySources_24 (by decide) ?_
          refine lv_goto (tgt := 29) hx hy dX6_manySources_25 (by decide) ?_
          refine lv_iadd hx hy dX6_manySources_29 ?_
          refine tI (nI_add (fb_ct (fun j => decide ((X.1.2.2 j).1 = 0)) i) (1)) ?_
          refine tI (show _ = nI (fb_ct (fun j => decide ((X.1.2.2 j).1 = 0)) (i + 1)) from by rw [fb_ct_succ, if_pos (decide_eq_true h6)]) ?_
          refine lv_istore_n (lv' := [(1, .int (nI (fb_ct (fun j => decide ((X.1.2.2 j).1 = 0)) (i + 1)))), (2, .int (nI i)), (0, .ref (eA E 48))]) hx hy dX6_manySources_30 rfl hl (by decide) rfl (fun ls hl => ?_)
          refine lv_iinc (v := nI (i + 1)) (lv' := [(2, .int (nI (i + 1))), (1, .int (nI (fb_ct (fun j => decide ((X.1.2.2 j).1 = 0)) (i + 1)))), (0, .ref (eA E 48))]) hx hy dX6_manySources_31 hl (k := 1) rfl (nI_add (i) 1) (by decide) rfl (fun ls hl => ?_)
          refine lv_goto (tgt := 4) hx hy dX6_manySources_34 (by decide) ?_
          exact ih_4 (i + 1) (by omega) (by omega) _ _ _ hI (lv_sub hl [0, 1, 2] rfl)
  exact lp1 (X.1.1 + 1) 0 (by omega) (by omega) _ _ _ hI (lv_sub hl [0, 1, 2] rfl)
set_option maxHeartbeats 400000 in
set_option maxRecDepth 100000 in
theorem kX6_errors (l : Launch) (E : EV) (u : SS) {X : XS} (hC : RepM u.1 X) (hX : XOk X) : CT l yX6_errors cX6_errors 3 (some .int) (Rm 4 92) [.ref (eA E 48)] E u (Q_i E (fun r c => r = nI (sumE X.1.2.2 X.1.2.1 X.1.1) ∧ ScrM u.1 c) (fun (c : CF) => (c, u.2))) := by
  refine mstart RX6 (by decide +kernel) rfl (Nat.le_of_ble_eq_true rfl) ?_
  intro p e s m args below meth co ls Q hQ F hI hl
  have hx := F.1
  have hy := F.2.1
  have hl : lv_has ls 3 [(0, .ref (eA E 48))] := hl
  have hC2 := hC
  obtain ⟨hA, hH, hS, hT⟩ := hC2
  have hn16 := hX.1.1
  have hl1 := hX.1.2.1
  have hl2 := hX.1.2.2.1
  have hh4 := hX.2.1.1
  have hs1 := hX.2.2.1.1
  have ht80 := hX.2.2.2.1
  refine lv_iconst (v := nI 0) hx hy dX6_errors_0 (by decide) ?_
  refine lv_istore_n (lv' := [(1, .int (nI 0)), (0, .ref (eA E 48))]) hx hy dX6_errors_1 rfl hl (by decide) rfl (fun ls hl => ?_)
  refine lv_iconst (v := nI 0) hx hy dX6_errors_2 (by decide) ?_
  refine lv_istore_n (lv' := [(2, .int (nI 0)), (1, .int (nI 0)), (0, .ref (eA E 48))]) hx hy dX6_errors_3 rfl hl (by decide) rfl (fun ls hl => ?_)
  have lp1 : ∀ (fu : Nat) (i : Nat) (c : CF), (i ≤ X.1.1) → (X.1.1 - i < fu) → (ScrM u.1 c) →  ∀ (H : Heap) (locs : List Loc) (ls : Array Slot), Iv E s H locs ((c, u.2)) → lv_has ls 3 [(2, .int (nI i)), (1, .int (nI (sumE X.1.2.2 X.1.2.1 i))), (0, .ref (eA E 48))] → W p l e (Rm 4 92) s m args below meth co H locs 0 0 Q (F0 m 4 ls []) := by
    intro fu
    induction fu with
    | zero => intro i c hi hf hsw; exact absurd hf (Nat.not_lt_zero _)
    | succ fu ih =>
      intro i c hi hf hsw H locs ls hI hl
      have hCw := ScrM.rep hC hX hsw
      have hAw : RowM c 41 0 X.1 := hCw.1
      have ih_4 := ih
      refine lv_iload_n hx hy dX6_errors_4 rfl (lv_at hl 0 rfl) ?_
      refine lv_aload_n hx hy dX6_errors_5 rfl (lv_at hl 2 rfl) ?_
      refine gX6_all F hI L_X6_7 dX6_errors_6 ?_
      refine lv_iconst (v := nI 0) hx hy dX6_errors_9 (by decide) ?_
      refine aIlN F hI iX6_all (i := 0) (by omega) (by decide) dX6_errors_10 ?_
      refine tI (show _ = c 41 0 from rfl) ?_
      refine tI hAw.1 ?_
      refine lv_icmp_ge (tgt := 34) hx hy dX6_errors_11 (by decide) (fun h2 => ?_) (fun h2 => ?_)
      · have h2 : X.1.1 ≤ i := (nI_leI (a := X.1.1) (b := i) (by omega) (by omega)).mp h2
        refine lv_iload_n hx hy dX6_errors_34 rfl (lv_at hl 1 rfl) ?_
        exact rI hQ F (v := c) hI dX6_errors_35 ⟨by rw [show i = X.1.1 from by omega], hsw⟩
      · have h2 : i < X.1.1 := Nat.lt_of_not_le (fun q9 => h2 ((nI_leI (a := X.1.1) (b := i) (by omega) (by omega)).mpr q9))
        refine lv_iload_n hx hy dX6_errors_14 rfl (lv_at hl 1 rfl) ?_
        refine lv_aload_n hx hy dX6_errors_15 rfl (lv_at hl 2 rfl) ?_
        refine lv_iload_n hx hy dX6_errors_16 rfl (lv_at hl 0 rfl) ?_
        refine lv_aload_n hx hy dX6_errors_17 rfl (lv_at hl 2 rfl) ?_
        refine gX6_all F hI L_X6_7 dX6_errors_18 ?_
        refine lv_iconst (v := nI 1) hx hy dX6_errors_21 (by decide) ?_
        refine aIlN F hI iX6_all (i := 1) (by omega) (by decide) dX6_errors_22 ?_
        refine tI (show _ = c 41 1 from rfl) ?_
        refine tI hAw.2.1 ?_
        refine zI hI (xV F hI hl (kX6_errorOf l E ((c, u.2)) (z := X.1) hAw hX.1 i (X.1.2.1) (by omega) (by omega) (by omega)) M_X6_203 (rX6 F hI) rfl ⟨Nat.le_of_ble_eq_true rfl, Nat.le_of_ble_eq_true rfl⟩ ⟨Nat.zero_le _, Nat.zero_le _⟩ rfl (Nat.le_of_ble_eq_true rfl) dX6_errors_23) (fun r4 v5 H locs hI hp3 => ?_)
        obtain ⟨hpr6, hqo7⟩ := hp3
        have hsc8 : ScrM u.1 v5 := hsw.tr hqo7.scr
        have hCs9 := ScrM.rep hC hX hsc8
        have hAhCs9 : RowM v5 41 0 X.1 := hCs9.1
        refine tI (show _ = nI (errN X.1.2.2 i (X.1.2.1)) from hpr6) ?_
        refine lv_iadd hx hy dX6_errors_26 ?_
        refine tI (nI_add (sumE X.1.2.2 X.1.2.1 i) (errN X.1.2.2 i (X.1.2.1))) ?_
        refine lv_istore_n (lv' := [(1, .int (nI (sumE X.1.2.2 X.1.2.1 i + errN X.1.2.2 i (X.1.2.1)))), (2, .int (nI i)), (0, .ref (eA E 48))]) hx hy dX6_errors_27 rfl hl (by decide) rfl (fun ls hl => ?_)
        have hl : lv_has ls 3 [(1, .int (nI (sumE X.1.2.2 X.1.2.1 (i + 1)))), (2, .int (nI i)), (0, .ref (eA E 48))] := hl
        refine lv_iinc (v := nI (i + 1)) (lv' := [(2, .int (nI (i + 1))), (1, .int (nI (sumE X.1.2.2 X.1.2.1 (i + 1)))), (0, .ref (eA E 48))]) hx hy dX6_errors_28 hl (k := 1) rfl (nI_add (i) 1) (by decide) rfl (fun ls hl => ?_)
        refine lv_goto (tgt := 4) hx hy dX6_errors_31 (by decide) ?_
        exact ih_4 (i + 1) v5 (by omega) (by omega) hsc8 _ _ _ hI (lv_sub hl [0, 1, 2] rfl)
  exact lp1 (X.1.1 + 1) 0 u.1 (by omega) (by omega) (ScrM.rf _) _ _ _ hI (lv_sub hl [0, 1, 2] rfl)
set_option maxHeartbeats 400000 in
set_option maxRecDepth 100000 in
theorem kX6_worst (l : Launch) (E : EV) (u : SS) {X : XS} (hC : RepM u.1 X) (hX : XOk X) : CT l yX6_worst cX6_worst 5 (some .int) (Rm 4 92) [.ref (eA E 48)] E u (Q_i E (fun r c => r = wrI (wrst X.1.2.2 X.1.2.1 X.1.1) ∧ ScrM u.1 c) (fun (c : CF) => (c, u.2))) := by
  refine mstart RX6 (by decide +kernel) rfl (Nat.le_of_ble_eq_true rfl) ?_
  intro p e s m args below meth co ls Q hQ F hI hl
  have hx := F.1
  have hy := F.2.1
  have hl : lv_has ls 5 [(0, .ref (eA E 48))] := hl
  have hC2 := hC
  obtain ⟨hA, hH, hS, hT⟩ := hC2
  have hn16 := hX.1.1
  have hl1 := hX.1.2.1
  have hl2 := hX.1.2.2.1
  have hh4 := hX.2.1.1
  have hs1 := hX.2.2.1.1
  have ht80 := hX.2.2.2.1
  have hee : ∀ j, j < X.1.1 → errN X.1.2.2 j X.1.2.1 ≤ 65536 := fun j hj => errN_le (ex_le hX.1.2.2.2 j hj)
  refine zc F K_X6_85 dX6_worst_0 ?_
  refine lv_istore_n (lv' := [(1, .int ((-100000005))), (0, .ref (eA E 48))]) hx hy dX6_worst_2 rfl hl (by decide) rfl (fun ls hl => ?_)
  refine lv_iconst (v := (-1)) hx hy dX6_worst_3 (by decide) ?_
  refine lv_istore_n (lv' := [(2, .int ((-1))), (1, .int ((-100000005))), (0, .ref (eA E 48))]) hx hy dX6_worst_4 rfl hl (by decide) rfl (fun ls hl => ?_)
  refine lv_iconst (v := nI 0) hx hy dX6_worst_5 (by decide) ?_
  refine lv_istore_n (lv' := [(3, .int (nI 0)), (2, .int ((-1))), (1, .int ((-100000005))), (0, .ref (eA E 48))]) hx hy dX6_worst_6 rfl hl (by decide) rfl (fun ls hl => ?_)
  have lp1 : ∀ (fu : Nat) (i : Nat) (c : CF), (i ≤ X.1.1) → (X.1.1 - i < fu) → (ScrM u.1 c) →  ∀ (H : Heap) (locs : List Loc) (ls : Array Slot), Iv E s H locs ((c, u.2)) → lv_has ls 5 [(3, .int (nI i)), (1, .int (wrI (wrst X.1.2.2 X.1.2.1 i))), (2, .int (wrG (wrst X.1.2.2 X.1.2.1 i))), (0, .ref (eA E 48))] → W p l e (Rm 4 92) s m args below meth co H locs 0 0 Q (F0 m 7 ls []) := by
    intro fu
    induction fu with
    | zero => intro i c hi hf hsw; exact absurd hf (Nat.not_lt_zero _)
    | succ fu ih =>
      intro i c hi hf hsw H locs ls hI hl
      have hCw := ScrM.rep hC hX hsw
      have hAw : RowM c 41 0 X.1 := hCw.1
      have ih_7 := ih
      refine lv_iload_n hx hy dX6_worst_7 rfl (lv_at hl 0 rfl) ?_
      refine lv_aload_n hx hy dX6_worst_8 rfl (lv_at hl 3 rfl) ?_
      refine gX6_all F hI L_X6_7 dX6_worst_9 ?_
      refine lv_iconst (v := nI 0) hx hy dX6_worst_12 (by decide) ?_
      refine aIlN F hI iX6_all (i := 0) (by omega) (by decide) dX6_worst_13 ?_
      refine tI (show _ = c 41 0 from rfl) ?_
      refine tI hAw.1 ?_
      refine lv_icmp_ge (tgt := 61) hx hy dX6_worst_14 (by decide) (fun h2 => ?_) (fun h2 => ?_)
      · have h2 : X.1.1 ≤ i := (nI_leI (a := X.1.1) (b := i) (by omega) (by omega)).mp h2
        refine lv_iload_n hx hy dX6_worst_61 rfl (lv_at hl 1 rfl) ?_
        exact rI hQ F (v := c) hI dX6_worst_62 ⟨by rw [show i = X.1.1 from by omega], hsw⟩
      · have h2 : i < X.1.1 := Nat.lt_of_not_le (fun q9 => h2 ((nI_leI (a := X.1.1) (b := i) (by omega) (by omega)).mpr q9))
        refine lv_aload_n hx hy dX6_worst_17 rfl (lv_at hl 3 rfl) ?_
        refine lv_iload_n hx hy dX6_worst_18 rfl (lv_at hl 0 rfl) ?_
        refine lv_aload_n hx hy dX6_worst_19 rfl (lv_at hl 3 rfl) ?_
        refine gX6_all F hI L_X6_7 dX6_worst_20 ?_
        refine lv_iconst (v := nI 1) hx hy dX6_worst_23 (by decide) ?_
        refine aIlN F hI iX6_all (i := 1) (by omega) (by decide) dX6_worst_24 ?_
        refine tI (show _ = c 41 1 from rfl) ?_
        refine tI hAw.2.1 ?_
        refine zI hI (xV F hI hl (kX6_errorOf l E ((c, u.2)) (z := X.1) hAw hX.1 i (X.1.2.1) (by omega) (by omega) (by omega)) M_X6_203 (rX6 F hI) rfl ⟨Nat.le_of_ble_eq_true rfl, Nat.le_of_ble_eq_true rfl⟩ ⟨Nat.zero_le _, Nat.zero_le _⟩ rfl (Nat.le_of_ble_eq_true rfl) dX6_worst_25) (fun r4 v5 H locs hI hp3 => ?_)
        obtain ⟨hpr6, hqo7⟩ := hp3
        have hsc8 : ScrM u.1 v5 := hsw.tr hqo7.scr
        have hCs9 := ScrM.rep hC hX hsc8
        have hAhCs9 : RowM v5 41 0 X.1 := hCs9.1
        refine tI (show _ = nI (errN X.1.2.2 i (X.1.2.1)) from hpr6) ?_
        refine lv_istore (lv' := [(4, .int (nI (errN X.1.2.2 i (X.1.2.1)))), (3, .int (nI i)), (1, .int (wrI (wrst X.1.2.2 X.1.2.1 i))), (2, .int (wrG (wrst X.1.2.2 X.1.2.1 i))), (0, .ref (eA E 48))]) hx hy dX6_worst_28 hl (by decide) rfl (fun ls hl => ?_)
        rcases hw : wrst X.1.2.2 X.1.2.1 i with _ | ⟨ww, gg⟩
        · have hl : lv_has ls 5 [(4, .int (nI (errN X.1.2.2 i (X.1.2.1)))), (3, .int (nI i)), (1, .int (NON)), (2, .int ((-1))), (0, .ref (eA E 48))] := by rw [hw] at hl; exact hl
          refine lv_iload hx hy dX6_worst_30 (lv_at hl 0 rfl) ?_
          refine lv_iload_n hx hy dX6_worst_32 rfl (lv_at hl 3 rfl) ?_
          refine lv_icmp_le (tgt := 40) hx hy dX6_worst_33 (by decide) (fun q => absurd q (m1_ge (by have := hee i (by omega); omega))) (fun h10 => ?_)
          refine lv_iload_n hx hy dX6_worst_36 rfl (lv_at hl 1 rfl) ?_
          refine lv_goto (tgt := 41) hx hy dX6_worst_37 (by decide) ?_
          refine lv_istore_n (lv' := [(1, .int (nI i)), (4, .int (nI (errN X.1.2.2 i (X.1.2.1)))), (3, .int (nI i)), (2, .int ((-1))), (0, .ref (eA E 48))]) hx hy dX6_worst_41 rfl hl (by decide) rfl (fun ls hl => ?_)
          refine lv_iload hx hy dX6_worst_42 (lv_at hl 1 rfl) ?_
          refine lv_iload_n hx hy dX6_worst_44 rfl (lv_at hl 3 rfl) ?_
          refine lv_icmp_le (tgt := 53) hx hy dX6_worst_45 (by decide) (fun q => absurd q (m1_ge (by have := hee i (by omega); omega))) (fun h11 => ?_)
          refine lv_iload hx hy dX6_worst_48 (lv_at hl 1 rfl) ?_
          refine lv_goto (tgt := 54) hx hy dX6_worst_50 (by decide) ?_
          refine lv_istore_n (lv' := [(2, .int (nI (errN X.1.2.2 i (X.1.2.1)))), (1, .int (nI i)), (4, .int (nI (errN X.1.2.2 i (X.1.2.1)))), (3, .int (nI i)), (0, .ref (eA E 48))]) hx hy dX6_worst_54 rfl hl (by decide) rfl (fun ls hl => ?_)
          have e7 : wrst X.1.2.2 X.1.2.1 (i + 1) = _ := wr_none hw
          have hl : lv_has ls 5 [(2, .int (wrG (wrst X.1.2.2 X.1.2.1 (i + 1)))), (1, .int (wrI (wrst X.1.2.2 X.1.2.1 (i + 1)))), (4, .int (nI (errN X.1.2.2 i (X.1.2.1)))), (3, .int (nI i)), (0, .ref (eA E 48))] := by rw [e7]; exact hl
          refine lv_iinc (v := nI (i + 1)) (lv' := [(3, .int (nI (i + 1))), (2, .int (wrG (wrst X.1.2.2 X.1.2.1 (i + 1)))), (1, .int (wrI (wrst X.1.2.2 X.1.2.1 (i + 1)))), (4, .int (nI (errN X.1.2.2 i (X.1.2.1)))), (0, .ref (eA E 48))]) hx hy dX6_worst_55 hl (k := 3) rfl (nI_add (i) 1) (by decide) rfl (fun ls hl => ?_)
          refine lv_goto (tgt := 7) hx hy dX6_worst_58 (by decide) ?_
          exact ih_7 (i + 1) v5 (by omega) (by omega) hsc8 _ _ _ hI (lv_sub hl [0, 2, 1, 4] rfl)
        · have hwb := wr_bnd hee i (by omega) ww gg hw
          have hl : lv_has ls 5 [(4, .int (nI (errN X.1.2.2 i (X.1.2.1)))), (3, .int (nI i)), (1, .int (nI ww)), (2, .int (nI gg)), (0, .ref (eA E 48))] := by rw [hw] at hl; exact hl
          refine lv_iload hx hy dX6_worst_30 (lv_at hl 0 rfl) ?_
          refine lv_iload_n hx hy dX6_worst_32 rfl (lv_at hl 3 rfl) ?_
          refine lv_icmp_le (tgt := 40) hx hy dX6_worst_33 (by decide) (fun h12 => ?_) (fun h12 => ?_)
          · have h12 : errN X.1.2.2 i (X.1.2.1) ≤ gg := (nI_leI (a := errN X.1.2.2 i (X.1.2.1)) (b := gg) (by have := hee i (by omega); omega) (by omega)).mp h12
            refine lv_iload_n hx hy dX6_worst_40 rfl (lv_at hl 2 rfl) ?_
            refine lv_istore_n (lv' := [(1, .int (nI ww)), (4, .int (nI (errN X.1.2.2 i (X.1.2.1)))), (3, .int (nI i)), (2, .int (nI gg)), (0, .ref (eA E 48))]) hx hy dX6_worst_41 rfl hl (by decide) rfl (fun ls hl => ?_)
            refine lv_iload hx hy dX6_worst_42 (lv_at hl 1 rfl) ?_
            refine lv_iload_n hx hy dX6_worst_44 rfl (lv_at hl 3 rfl) ?_
            refine lv_icmp_le (tgt := 53) hx hy dX6_worst_45 (by decide) (fun h13 => ?_) (fun q => absurd ((nI_leI (a := errN X.1.2.2 i X.1.2.1) (b := gg) (by have := hee i (by omega); omega) (by omega)).mpr (by omega)) q)
            refine lv_iload_n hx hy dX6_worst_53 rfl (lv_at hl 3 rfl) ?_
            refine lv_istore_n (lv' := [(2, .int (nI gg)), (1, .int (nI ww)), (4, .int (nI (errN X.1.2.2 i (X.1.2.1)))), (3, .int (nI i)), (0, .ref (eA E 48))]) hx hy dX6_worst_54 rfl hl (by decide) rfl (fun ls hl => ?_)
            have e7 : wrst X.1.2.2 X.1.2.1 (i + 1) = _ := wr_le hw (by omega)
            have hl : lv_has ls 5 [(2, .int (wrG (wrst X.1.2.2 X.1.2.1 (i + 1)))), (1, .int (wrI (wrst X.1.2.2 X.1.2.1 (i + 1)))), (4, .int (nI (errN X.1.2.2 i (X.1.2.1)))), (3, .int (nI i)), (0, .ref (eA E 48))] := by rw [e7]; exact hl
            refine lv_iinc (v := nI (i + 1)) (lv' := [(3, .int (nI (i + 1))), (2, .int (wrG (wrst X.1.2.2 X.1.2.1 (i + 1)))), (1, .int (wrI (wrst X.1.2.2 X.1.2.1 (i + 1)))), (4, .int (nI (errN X.1.2.2 i (X.1.2.1)))), (0, .ref (eA E 48))]) hx hy dX6_worst_55 hl (k := 3) rfl (nI_add (i) 1) (by decide) rfl (fun ls hl => ?_)
            refine lv_goto (tgt := 7) hx hy dX6_worst_58 (by decide) ?_
            exact ih_7 (i + 1) v5 (by omega) (by omega) hsc8 _ _ _ hI (lv_sub hl [0, 2, 1, 4] rfl)
          · have h12 : gg < errN X.1.2.2 i (X.1.2.1) := Nat.lt_of_not_le (fun q9 => h12 ((nI_leI (a := errN X.1.2.2 i (X.1.2.1)) (b := gg) (by have := hee i (by omega); omega) (by omega)).mpr q9))
            refine lv_iload_n hx hy dX6_worst_36 rfl (lv_at hl 1 rfl) ?_
            refine lv_goto (tgt := 41) hx hy dX6_worst_37 (by decide) ?_
            refine lv_istore_n (lv' := [(1, .int (nI i)), (4, .int (nI (errN X.1.2.2 i (X.1.2.1)))), (3, .int (nI i)), (2, .int (nI gg)), (0, .ref (eA E 48))]) hx hy dX6_worst_41 rfl hl (by decide) rfl (fun ls hl => ?_)
            refine lv_iload hx hy dX6_worst_42 (lv_at hl 1 rfl) ?_
            refine lv_iload_n hx hy dX6_worst_44 rfl (lv_at hl 3 rfl) ?_
            refine lv_icmp_le (tgt := 53) hx hy dX6_worst_45 (by decide) (fun q => absurd ((nI_leI (a := errN X.1.2.2 i X.1.2.1) (b := gg) (by have := hee i (by omega); omega) (by omega)).mp q) (by omega)) (fun h14 => ?_)
            refine lv_iload hx hy dX6_worst_48 (lv_at hl 1 rfl) ?_
            refine lv_goto (tgt := 54) hx hy dX6_worst_50 (by decide) ?_
            refine lv_istore_n (lv' := [(2, .int (nI (errN X.1.2.2 i (X.1.2.1)))), (1, .int (nI i)), (4, .int (nI (errN X.1.2.2 i (X.1.2.1)))), (3, .int (nI i)), (0, .ref (eA E 48))]) hx hy dX6_worst_54 rfl hl (by decide) rfl (fun ls hl => ?_)
            have e7 : wrst X.1.2.2 X.1.2.1 (i + 1) = _ := wr_gt hw (by omega)
            have hl : lv_has ls 5 [(2, .int (wrG (wrst X.1.2.2 X.1.2.1 (i + 1)))), (1, .int (wrI (wrst X.1.2.2 X.1.2.1 (i + 1)))), (4, .int (nI (errN X.1.2.2 i (X.1.2.1)))), (3, .int (nI i)), (0, .ref (eA E 48))] := by rw [e7]; exact hl
            refine lv_iinc (v := nI (i + 1)) (lv' := [(3, .int (nI (i + 1))), (2, .int (wrG (wrst X.1.2.2 X.1.2.1 (i + 1)))), (1, .int (wrI (wrst X.1.2.2 X.1.2.1 (i + 1)))), (4, .int (nI (errN X.1.2.2 i (X.1.2.1)))), (0, .ref (eA E 48))]) hx hy dX6_worst_55 hl (k := 3) rfl (nI_add (i) 1) (by decide) rfl (fun ls hl => ?_)
            refine lv_goto (tgt := 7) hx hy dX6_worst_58 (by decide) ?_
            exact ih_7 (i + 1) v5 (by omega) (by omega) hsc8 _ _ _ hI (lv_sub hl [0, 2, 1, 4] rfl)
  exact lp1 (X.1.1 + 1) 0 u.1 (by omega) (by omega) (ScrM.rf _) _ _ _ hI (lv_sub hl [0, 2, 1, 3] rfl)
set_option maxHeartbeats 400000 in
set_option maxRecDepth 100000 in
theorem kX6_deepest (l : Launch) (E : EV) (u : SS) {X : XS} (hC : RepM u.1 X) (hX : XOk X) : CT l yX6_deepest cX6_deepest 3 (some .int) (Rm 2 46) [.ref (eA E 48)] E u (Q_i E (fun r c => r = nI (mxN (dp X.1.2.2) X.1.1) ∧ ScrM u.1 c) (fun (c : CF) => (c, u.2))) := by
  refine mstart RX6 (by decide +kernel) rfl (Nat.le_of_ble_eq_true rfl) ?_
  intro p e s m args below meth co ls Q hQ F hI hl
  have hx := F.1
  have hy := F.2.1
  have hl : lv_has ls 3 [(0, .ref (eA E 48))] := hl
  have hC2 := hC
  obtain ⟨hA, hH, hS, hT⟩ := hC2
  have hn16 := hX.1.1
  have hl1 := hX.1.2.1
  have hl2 := hX.1.2.2.1
  have hh4 := hX.2.1.1
  have hs1 := hX.2.2.1.1
  have ht80 := hX.2.2.2.1
  refine lv_aload_n hx hy dX6_deepest_0 rfl (lv_at hl 0 rfl) ?_
  refine zV hI (xV F hI hl (kX6_findsDepths l E (u) (z := X.1) hA hX.1) M_X6_195 (rX6 F hI) rfl ⟨Nat.le_of_ble_eq_true rfl, Nat.le_of_ble_eq_true rfl⟩ ⟨Nat.zero_le _, Nat.zero_le _⟩ rfl (Nat.le_of_ble_eq_true rfl) dX6_deepest_1) (fun v3 H locs hI hp1 => ?_)
  have hsc4 : ScrM u.1 v3 := (ScrM.rf _).tr (hp1).scr
  have hCs5 := ScrM.rep hC hX hsc4
  have hAhCs5 : RowM v3 41 0 X.1 := hCs5.1
  refine lv_iconst (v := nI 0) hx hy dX6_deepest_4 (by decide) ?_
  refine lv_istore_n (lv' := [(1, .int (nI 0)), (0, .ref (eA E 48))]) hx hy dX6_deepest_5 rfl hl (by decide) rfl (fun ls hl => ?_)
  refine lv_iconst (v := nI 0) hx hy dX6_deepest_6 (by decide) ?_
  refine lv_istore_n (lv' := [(2, .int (nI 0)), (1, .int (nI 0)), (0, .ref (eA E 48))]) hx hy dX6_deepest_7 rfl hl (by decide) rfl (fun ls hl => ?_)
  have lp6 : ∀ (fu : Nat) (i : Nat), (i ≤ X.1.1) → (X.1.1 - i < fu) →  ∀ (H : Heap) (locs : List Loc) (ls : Array Slot), Iv E s H locs ((v3, u.2)) → lv_has ls 3 [(2, .int (nI i)), (1, .int (nI (mxN (dp X.1.2.2) i))), (0, .ref (eA E 48))] → W p l e (Rm 2 46) s m args below meth co H locs 0 0 Q (F0 m 8 ls []) := by
    intro fu
    induction fu with
    | zero => intro i hi hf; exact absurd hf (Nat.not_lt_zero _)
    | succ fu ih =>
      intro i hi hf H locs ls hI hl
      have ih_8 := ih
      refine lv_iload_n hx hy dX6_deepest_8 rfl (lv_at hl 0 rfl) ?_
      refine lv_aload_n hx hy dX6_deepest_9 rfl (lv_at hl 2 rfl) ?_
      refine gX6_all F hI L_X6_7 dX6_deepest_10 ?_
      refine lv_iconst (v := nI 0) hx hy dX6_deepest_13 (by decide) ?_
      refine aIlN F hI iX6_all (i := 0) (by omega) (by decide) dX6_deepest_14 ?_
      refine tI (show _ = v3 41 0 from rfl) ?_
      refine tI hAhCs5.1 ?_
      refine lv_icmp_ge (tgt := 45) hx hy dX6_deepest_15 (by decide) (fun h7 => ?_) (fun h7 => ?_)
      · have h7 : X.1.1 ≤ i := (nI_leI (a := X.1.1) (b := i) (by omega) (by omega)).mp h7
        refine lv_iload_n hx hy dX6_deepest_45 rfl (lv_at hl 1 rfl) ?_
        exact rI hQ F (v := v3) hI dX6_deepest_46 ⟨by rw [show i = X.1.1 from by omega], hsc4⟩
      · have h7 : i < X.1.1 := Nat.lt_of_not_le (fun q9 => h7 ((nI_leI (a := X.1.1) (b := i) (by omega) (by omega)).mpr q9))
        refine lv_aload_n hx hy dX6_deepest_18 rfl (lv_at hl 2 rfl) ?_
        refine gX6_deep F hI L_X6_41 dX6_deepest_19 ?_
        refine lv_iload_n hx hy dX6_deepest_22 rfl (lv_at hl 0 rfl) ?_
        refine aIlN F hI iX6_deep (i := i) (by omega) (by decide) dX6_deepest_23 ?_
        refine tI (show _ = v3 50 i from rfl) ?_
        refine tI (hp1.1 i (by omega)).1 ?_
        refine lv_iload_n hx hy dX6_deepest_24 rfl (lv_at hl 1 rfl) ?_
        refine lv_icmp_le (tgt := 37) hx hy dX6_deepest_25 (by decide) (fun h8 => ?_) (fun h8 => ?_)
        · have h8 : dp X.1.2.2 i ≤ mxN (dp X.1.2.2) i := (nI_leI (a := dp X.1.2.2 i) (b := mxN (dp X.1.2.2) i) (by have h1 := dp_le hX.1.2.2.2 i (by omega); have h2 := mxN_le (g := dp X.1.2.2) (k := 16) i (fun a ha => by have := dp_le hX.1.2.2.2 a (by omega); omega); omega) (by have h1 := dp_le hX.1.2.2.2 i (by omega); have h2 := mxN_le (g := dp X.1.2.2) (k := 16) i (fun a ha => by have := dp_le hX.1.2.2.2 a (by omega); omega); omega)).mp h8
          refine lv_iload_n hx hy dX6_deepest_37 rfl (lv_at hl 1 rfl) ?_
          refine lv_istore_n (lv' := [(1, .int (nI (mxN (dp X.1.2.2) i))), (2, .int (nI i)), (0, .ref (eA E 48))]) hx hy dX6_deepest_38 rfl hl (by decide) rfl (fun ls hl => ?_)
          have e7 : mxN (dp X.1.2.2) (i + 1) = mxN (dp X.1.2.2) i := by show max (mxN (dp X.1.2.2) i) (dp X.1.2.2 i) = _; omega
          have hl : lv_has ls 3 [(1, .int (nI (mxN (dp X.1.2.2) (i + 1)))), (2, .int (nI i)), (0, .ref (eA E 48))] := by rw [e7]; exact hl
          refine lv_iinc (v := nI (i + 1)) (lv' := [(2, .int (nI (i + 1))), (1, .int (nI (mxN (dp X.1.2.2) (i + 1)))), (0, .ref (eA E 48))]) hx hy dX6_deepest_39 hl (k := 1) rfl (nI_add (i) 1) (by decide) rfl (fun ls hl => ?_)
          refine lv_goto (tgt := 8) hx hy dX6_deepest_42 (by decide) ?_
          exact ih_8 (i + 1) (by omega) (by omega) _ _ _ hI (lv_sub hl [0, 1, 2] rfl)
        · have h8 : mxN (dp X.1.2.2) i < dp X.1.2.2 i := Nat.lt_of_not_le (fun q9 => h8 ((nI_leI (a := dp X.1.2.2 i) (b := mxN (dp X.1.2.2) i) (by have h1 := dp_le hX.1.2.2.2 i (by omega); have h2 := mxN_le (g := dp X.1.2.2) (k := 16) i (fun a ha => by have := dp_le hX.1.2.2.2 a (by omega); omega); omega) (by have h1 := dp_le hX.1.2.2.2 i (by omega); have h2 := mxN_le (g := dp X.1.2.2) (k := 16) i (fun a ha => by have := dp_le hX.1.2.2.2 a (by omega); omega); omega)).mpr q9))
          refine lv_aload_n hx hy dX6_deepest_28 rfl (lv_at hl 2 rfl) ?_
          refine gX6_deep F hI L_X6_41 dX6_deepest_29 ?_
          refine lv_iload_n hx hy dX6_deepest_32 rfl (lv_at hl 0 rfl) ?_
          refine aIlN F hI iX6_deep (i := i) (by omega) (by decide) dX6_deepest_33 ?_
          refine tI (show _ = v3 50 i from rfl) ?_
          refine tI (hp1.1 i (by omega)).1 ?_
          refine lv_goto (tgt := 38) hx hy dX6_deepest_34 (by decide) ?_
          refine lv_istore_n (lv' := [(1, .int (nI (dp X.1.2.2 i))), (2, .int (nI i)), (0, .ref (eA E 48))]) hx hy dX6_deepest_38 rfl hl (by decide) rfl (fun ls hl => ?_)
          have e7 : mxN (dp X.1.2.2) (i + 1) = dp X.1.2.2 i := by show max (mxN (dp X.1.2.2) i) (dp X.1.2.2 i) = _; omega
          have hl : lv_has ls 3 [(1, .int (nI (mxN (dp X.1.2.2) (i + 1)))), (2, .int (nI i)), (0, .ref (eA E 48))] := by rw [e7]; exact hl
          refine lv_iinc (v := nI (i + 1)) (lv' := [(2, .int (nI (i + 1))), (1, .int (nI (mxN (dp X.1.2.2) (i + 1)))), (0, .ref (eA E 48))]) hx hy dX6_deepest_39 hl (k := 1) rfl (nI_add (i) 1) (by decide) rfl (fun ls hl => ?_)
          refine lv_goto (tgt := 8) hx hy dX6_deepest_42 (by decide) ?_
          exact ih_8 (i + 1) (by omega) (by omega) _ _ _ hI (lv_sub hl [0, 1, 2] rfl)
  exact lp6 (X.1.1 + 1) 0 (by omega) (by omega) _ _ _ hI (lv_sub hl [0, 1, 2] rfl)
set_option maxHeartbeats 400000 in
set_option maxRecDepth 100000 in
theorem kX6_count (l : Launch) (E : EV) (u : SS) {X : XS} (hC : RepM u.1 X) (hX : XOk X) (x : Int32) : CT l yX6_count cX6_count 2 (some .int) (Rm 5 116) [.ref (eA E 48), .int (x)] E u (Q_i E (fun r v => r = (a_count X x).1 ∧ RepM v.1 (a_count X x).2 ∧ SameC u.1 v.1) (fun (v : SS) => v)) := by
  refine mstart RX6 (by decide +kernel) rfl (Nat.le_of_ble_eq_true rfl) ?_
  intro p e s m args below meth co ls Q hQ F hI hl
  have hx := F.1
  have hy := F.2.1
  have hl : lv_has ls 2 [(0, .ref (eA E 48)), (1, .int (x))] := hl
  have hC2 := hC
  obtain ⟨hA, hH, hS, hT⟩ := hC2
  have hn16 := hX.1.1
  have hl1 := hX.1.2.1
  have hl2 := hX.1.2.2.1
  have hh4 := hX.2.1.1
  have hs1 := hX.2.2.1.1
  have ht80 := hX.2.2.2.1
  refine lv_iload_n hx hy dX6_count_0 rfl (lv_at hl 1 rfl) ?_
  rcases rgO_cases 0 7 x (by decide) (by decide) with hxx | ⟨jx, hmjx, hljx, rfl, hxx⟩
  · refine lv_tableOut (tgt := 92) hx hy dX6_count_1 (rgO_out (by decide) (by decide) hxx) (by decide) ?_
    refine zc F K_X6_90 dX6_count_92 ?_
    exact rI hQ F (v := (u.1, u.2)) hI dX6_count_94 (by rw [a_count, withR_n hxx]; exact ⟨rfl, hC, SameC.rf _⟩)
  · rcases (show jx = 0 ∨ jx = 1 ∨ jx = 2 ∨ jx = 3 ∨ jx = 4 ∨ jx = 5 ∨ jx = 6 ∨ jx = 7 by omega) with rfl | rfl | rfl | rfl | rfl | rfl | rfl | rfl
    · refine lv_tableIn (tgt := 48) hx hy dX6_count_1 (by decide) (by decide) (by rfl) (by decide) ?_
      refine lv_aload_n hx hy dX6_count_48 rfl (lv_at hl 0 rfl) ?_
      refine gX6_all F hI L_X6_7 dX6_count_49 ?_
      refine lv_iconst (v := nI 0) hx hy dX6_count_52 (by decide) ?_
      refine aIlN F hI iX6_all (i := 0) (by omega) (by decide) dX6_count_53 ?_
      refine tI hA.1 ?_
      exact rI hQ F (v := (u.1, u.2)) hI dX6_count_54 (by rw [a_count, withR_s hxx]; exact ⟨rfl, hC, SameC.rf _⟩)
    · refine lv_tableIn (tgt := 55) hx hy dX6_count_1 (by decide) (by decide) (by rfl) (by decide) ?_
      refine lv_aload_n hx hy dX6_count_55 rfl (lv_at hl 0 rfl) ?_
      refine gX6_all F hI L_X6_7 dX6_count_56 ?_
      refine lv_iconst (v := nI 1) hx hy dX6_count_59 (by decide) ?_
      refine aIlN F hI iX6_all (i := 1) (by omega) (by decide) dX6_count_60 ?_
      refine tI hA.2.1 ?_
      exact rI hQ F (v := (u.1, u.2)) hI dX6_count_61 (by rw [a_count, withR_s hxx]; exact ⟨rfl, hC, SameC.rf _⟩)
    · refine lv_tableIn (tgt := 62) hx hy dX6_count_1 (by decide) (by decide) (by rfl) (by decide) ?_
      refine lv_aload_n hx hy dX6_count_62 rfl (lv_at hl 0 rfl) ?_
      refine zI hI (xV F hI hl (kX6_manySources l E (u) hC hX) M_X6_206 (rX6 F hI) rfl ⟨Nat.le_of_ble_eq_true rfl, Nat.le_of_ble_eq_true rfl⟩ ⟨Nat.zero_le _, Nat.zero_le _⟩ rfl (Nat.le_of_ble_eq_true rfl) dX6_count_63) (fun r2 v3 H locs hI hp1 => ?_)
      obtain ⟨hpr4, hps5⟩ := hp1
      have hsc6 : ScrM u.1 v3 := (ScrM.rf _).tr hps5
      have hCs7 := ScrM.rep hC hX hsc6
      have hAhCs7 : RowM v3 41 0 X.1 := hCs7.1
      refine tI (show _ = nI (fb_ct (fun j => decide ((X.1.2.2 j).1 = 0)) X.1.1) from hpr4) ?_
      exact rI hQ F (v := (v3, u.2)) hI dX6_count_66 (by rw [a_count, withR_s hxx]; exact ⟨rfl, ScrM.rep hC hX hsc6, hsc6.c⟩)
    · refine lv_tableIn (tgt := 67) hx hy dX6_count_1 (by decide) (by decide) (by rfl) (by decide) ?_
      refine lv_aload_n hx hy dX6_count_67 rfl (lv_at hl 0 rfl) ?_
      refine zI hI (xV F hI hl (kX6_errors l E (u) hC hX) M_X6_209 (rX6 F hI) rfl ⟨Nat.le_of_ble_eq_true rfl, Nat.le_of_ble_eq_true rfl⟩ ⟨Nat.zero_le _, Nat.zero_le _⟩ rfl (Nat.le_of_ble_eq_true rfl) dX6_count_68) (fun r9 v10 H locs hI hp8 => ?_)
      obtain ⟨hpr11, hps12⟩ := hp8
      have hsc13 : ScrM u.1 v10 := (ScrM.rf _).tr hps12
      have hCs14 := ScrM.rep hC hX hsc13
      have hAhCs14 : RowM v10 41 0 X.1 := hCs14.1
      refine tI (show _ = nI (sumE X.1.2.2 X.1.2.1 X.1.1) from hpr11) ?_
      exact rI hQ F (v := (v10, u.2)) hI dX6_count_71 (by rw [a_count, withR_s hxx]; exact ⟨rfl, ScrM.rep hC hX hsc13, hsc13.c⟩)
    · refine lv_tableIn (tgt := 72) hx hy dX6_count_1 (by decide) (by decide) (by rfl) (by decide) ?_
      refine lv_aload_n hx hy dX6_count_72 rfl (lv_at hl 0 rfl) ?_
      refine zI hI (xV F hI hl (kX6_worst l E (u) hC hX) M_X6_212 (rX6 F hI) rfl ⟨Nat.le_of_ble_eq_true rfl, Nat.le_of_ble_eq_true rfl⟩ ⟨Nat.zero_le _, Nat.zero_le _⟩ rfl (Nat.le_of_ble_eq_true rfl) dX6_count_73) (fun r16 v17 H locs hI hp15 => ?_)
      obtain ⟨hpr18, hps19⟩ := hp15
      have hsc20 : ScrM u.1 v17 := (ScrM.rf _).tr hps19
      have hCs21 := ScrM.rep hC hX hsc20
      have hAhCs21 : RowM v17 41 0 X.1 := hCs21.1
      refine tI (show _ = wrI (wrst X.1.2.2 X.1.2.1 X.1.1) from hpr18) ?_
      exact rI hQ F (v := (v17, u.2)) hI dX6_count_76 (by rw [a_count, withR_s hxx]; exact ⟨rfl, ScrM.rep hC hX hsc20, hsc20.c⟩)
    · refine lv_tableIn (tgt := 77) hx hy dX6_count_1 (by decide) (by decide) (by rfl) (by decide) ?_
      refine lv_aload_n hx hy dX6_count_77 rfl (lv_at hl 0 rfl) ?_
      refine zI hI (xV F hI hl (kX6_deepest l E (u) hC hX) M_X6_215 (rX6 F hI) rfl ⟨Nat.le_of_ble_eq_true rfl, Nat.le_of_ble_eq_true rfl⟩ ⟨Nat.zero_le _, Nat.zero_le _⟩ rfl (Nat.le_of_ble_eq_true rfl) dX6_count_78) (fun r23 v24 H locs hI hp22 => ?_)
      obtain ⟨hpr25, hps26⟩ := hp22
      have hsc27 : ScrM u.1 v24 := (ScrM.rf _).tr hps26
      have hCs28 := ScrM.rep hC hX hsc27
      have hAhCs28 : RowM v24 41 0 X.1 := hCs28.1
      refine tI (show _ = nI (mxN (dp X.1.2.2) X.1.1) from hpr25) ?_
      exact rI hQ F (v := (v24, u.2)) hI dX6_count_81 (by rw [a_count, withR_s hxx]; exact ⟨rfl, ScrM.rep hC hX hsc27, hsc27.c⟩)
    · refine lv_tableIn (tgt := 82) hx hy dX6_count_1 (by decide) (by decide) (by rfl) (by decide) ?_
      refine lv_aload_n hx hy dX6_count_82 rfl (lv_at hl 0 rfl) ?_
      refine gX6_historyLong F hI L_X6_61 dX6_count_83 ?_
      refine tI hH.1 ?_
      exact rI hQ F (v := (u.1, u.2)) hI dX6_count_86 (by rw [a_count, withR_s hxx]; exact ⟨rfl, hC, SameC.rf _⟩)
    · refine lv_tableIn (tgt := 87) hx hy dX6_count_1 (by decide) (by decide) (by rfl) (by decide) ?_
      refine lv_aload_n hx hy dX6_count_87 rfl (lv_at hl 0 rfl) ?_
      refine gX6_textLong F hI L_X6_140 dX6_count_88 ?_
      refine tI hT.1 ?_
      exact rI hQ F (v := (u.1, u.2)) hI dX6_count_91 (by rw [a_count, withR_s hxx]; exact ⟨rfl, hC, SameC.rf _⟩)
set_option maxHeartbeats 400000 in
set_option maxRecDepth 100000 in
theorem kX6_bestSeed (l : Launch) (E : EV) (u : SS) {X : XS} (hC : RepM u.1 X) (hX : XOk X) (x y w : Int32) : CT l yX6_bestSeed cX6_bestSeed 10 (some .int) (Rm 4 92) [.ref (eA E 48), .int (x), .int (y), .int (w)] E u (Q_i E (fun r v => r = (a_best X x y w).1 ∧ RepM v.1 (a_best X x y w).2 ∧ SameC u.1 v.1) (fun (v : SS) => v)) := by
  refine mstart RX6 (by decide +kernel) rfl (Nat.le_of_ble_eq_true rfl) ?_
  intro p e s m args below meth co ls Q hQ F hI hl
  have hx := F.1
  have hy := F.2.1
  have hl : lv_has ls 10 [(0, .ref (eA E 48)), (1, .int (x)), (2, .int (y)), (3, .int (w))] := hl
  have hC2 := hC
  obtain ⟨hA, hH, hS, hT⟩ := hC2
  have hn16 := hX.1.1
  have hl1 := hX.1.2.1
  have hl2 := hX.1.2.2.1
  have hh4 := hX.2.1.1
  have hs1 := hX.2.2.1.1
  have ht80 := hX.2.2.2.1
  refine lv_aload_n hx hy dX6_bestSeed_0 rfl (lv_at hl 0 rfl) ?_
  refine lv_iload_n hx hy dX6_bestSeed_1 rfl (lv_at hl 1 rfl) ?_
  refine zI hI (xV F hI hl (kX6_isLine l E (u) (n := X.1.1) hA.1 (by omega) x) M_X6_91 (rX6 F hI) rfl ⟨Nat.le_of_ble_eq_true rfl, Nat.le_of_ble_eq_true rfl⟩ ⟨Nat.zero_le _, Nat.zero_le _⟩ rfl (Nat.le_of_ble_eq_true rfl) dX6_bestSeed_2) (fun r2 v3 H locs hI hp1 => ?_)
  rcases ixO_cases X.1.1 x (by omega) with hxx | ⟨jx, hljx, rfl, hxx⟩
  · have hp1 : r2 = 0 := hp1.trans (by rw [hxx]; rfl)
    subst hp1
    refine lv_if_eq (tgt := 16) hx hy dX6_bestSeed_5 (by decide) (fun _ => ?_) (fun q => absurd q (by decide))
    refine zc F K_X6_95 dX6_bestSeed_16 ?_
    exact rI hQ F (v := (u.1, u.2)) hI dX6_bestSeed_18 (by rw [a_best, withL_n hxx]; exact ⟨rfl, hC, SameC.rf _⟩)
  · have hp1 : r2 = 1 := hp1.trans (by rw [hxx]; rfl)
    subst hp1
    have hokjx := hX.1.2.2.2 jx hljx
    have hk6jx := hokjx.1
    have hB9jx := hokjx.2.2.2.2.2.2.1
    have hC9jx := hokjx.2.2.2.2.2.2.2
    refine lv_if_eq (tgt := 16) hx hy dX6_bestSeed_5 (by decide) (fun q => absurd q (by decide)) (fun _ => ?_)
    refine lv_aload_n hx hy dX6_bestSeed_8 rfl (lv_at hl 0 rfl) ?_
    refine lv_iload_n hx hy dX6_bestSeed_9 rfl (lv_at hl 2 rfl) ?_
    refine zI hI (xV F hI hl (kX6_isLine l E (u) (n := X.1.1) hA.1 (by omega) y) M_X6_91 (rX6 F hI) rfl ⟨Nat.le_of_ble_eq_true rfl, Nat.le_of_ble_eq_true rfl⟩ ⟨Nat.zero_le _, Nat.zero_le _⟩ rfl (Nat.le_of_ble_eq_true rfl) dX6_bestSeed_10) (fun r5 v6 H locs hI hp4 => ?_)
    rcases ixO_cases X.1.1 y (by omega) with hxy | ⟨jy, hljy, rfl, hxy⟩
    · have hp4 : r5 = 0 := hp4.trans (by rw [hxy]; rfl)
      subst hp4
      refine lv_if_ne (tgt := 19) hx hy dX6_bestSeed_13 (by decide) (fun q => absurd q (by decide)) (fun _ => ?_)
      refine zc F K_X6_95 dX6_bestSeed_16 ?_
      exact rI hQ F (v := (u.1, u.2)) hI dX6_bestSeed_18 (by rw [a_best, withL_s hxx, withL_n hxy]; exact ⟨rfl, hC, SameC.rf _⟩)
    · have hp4 : r5 = 1 := hp4.trans (by rw [hxy]; rfl)
      subst hp4
      have hokjy := hX.1.2.2.2 jy hljy
      have hk6jy := hokjy.1
      have hB9jy := hokjy.2.2.2.2.2.2.1
      have hC9jy := hokjy.2.2.2.2.2.2.2
      refine lv_if_ne (tgt := 19) hx hy dX6_bestSeed_13 (by decide) (fun _ => ?_) (fun q => absurd q (by decide))
      refine lv_iload_n hx hy dX6_bestSeed_19 rfl (lv_at hl 3 rfl) ?_
      refine lv_i2l (v := Int32.toInt64 w) hx hy dX6_bestSeed_20 rfl ?_
      refine lv_lconst (v := lN 0) hx hy dX6_bestSeed_21 (by decide) ?_
      refine lv_lconst (v := lN 1) hx hy dX6_bestSeed_22 (by decide) ?_
      refine zI hI (xS F hI hl (kX6_in l E (u) (Int32.toInt64 w) (lN 0) (lN 1)) M_X6_65 rfl ⟨Nat.le_of_ble_eq_true rfl, Nat.le_of_ble_eq_true rfl⟩ ⟨Nat.zero_le _, Nat.zero_le _⟩ rfl (Nat.le_of_ble_eq_true rfl) dX6_bestSeed_23) (fun r8 v9 H locs hI hp7 => ?_)
      rcases rgO_cases 0 1 w (by decide) (by decide) with hxw | ⟨jw, hmjw, hljw, rfl, hxw⟩
      · have hp7 : r8 = 0 := hp7.trans (if_neg (fun q9 => by have q8 := (in_rg (a := 0) (b := 1) (by decide) (by decide) w).mp q9; rw [hxw] at q8; cases q8))
        subst hp7
        refine lv_if_ne (tgt := 32) hx hy dX6_bestSeed_26 (by decide) (fun q => absurd q (by decide)) (fun _ => ?_)
        refine zc F K_X6_90 dX6_bestSeed_29 ?_
        exact rI hQ F (v := (u.1, u.2)) hI dX6_bestSeed_31 (by rw [a_best, withL_s hxx, withL_s hxy, withR_n hxw]; exact ⟨rfl, hC, SameC.rf _⟩)
      · have hp7 : r8 = 1 := hp7.trans (if_pos ((in_rg (a := 0) (b := 1) (by decide) (by decide) (nI jw)).mpr (by rw [hxw]; rfl)))
        subst hp7
        refine lv_if_ne (tgt := 32) hx hy dX6_bestSeed_26 (by decide) (fun _ => ?_) (fun q => absurd q (by decide))
        refine lv_aload_n hx hy dX6_bestSeed_32 rfl (lv_at hl 0 rfl) ?_
        refine lv_iload_n hx hy dX6_bestSeed_33 rfl (lv_at hl 1 rfl) ?_
        refine lv_iconst (v := nI 0) hx hy dX6_bestSeed_34 (by decide) ?_
        refine zI hI (xV F hI hl (kX6_of l E (u) jx 0 (by omega) (by omega)) M_X6_100 (rX6 F hI) rfl ⟨Nat.le_of_ble_eq_true rfl, Nat.le_of_ble_eq_true rfl⟩ ⟨Nat.zero_le _, Nat.zero_le _⟩ rfl (Nat.le_of_ble_eq_true rfl) dX6_bestSeed_35) (fun r11 v12 H locs hI hp10 => ?_)
        subst hp10
        refine tI (show u.1 41 (2 + 4 * jx + 0) = nI (X.1.2.2 jx).1 by have h9 := (hA.2.2 jx hljx).1; rw [Nat.zero_add] at h9; exact h9) ?_
        refine lv_if_eq (tgt := 44) hx hy dX6_bestSeed_38 (by decide) (fun h13 => ?_) (fun h13 => ?_)
        · have h13 : (X.1.2.2 jx).1 = 0 := (nI_eq (a := (X.1.2.2 jx).1) (b := 0) (by omega) (by omega)).mp h13
          have hkk : (X.1.2.2 jx).1 = 0 := h13
          have hs00 := hokjx.2.1 hkk
          have hse : ∀ s, 1 ≤ s → s ≤ 255 → errS X.1.2.2 jx jy X.1.2.1 s ≤ 65536 := fun s h1 h2 => errS_le hX.1 hljy hkk h1 h2
          have hAs : RowM u.1 41 0 (X.1.1, X.1.2.1, seedF X.1.2.2 jx (X.1.2.2 jx).2.2.1) := by rw [seed_self]; exact hA
          refine lv_iconst (v := nI 2) hx hy dX6_bestSeed_44 (by decide) ?_
          refine lv_iconst (v := nI 4) hx hy dX6_bestSeed_45 (by decide) ?_
          refine lv_iload_n hx hy dX6_bestSeed_46 rfl (lv_at hl 1 rfl) ?_
          refine lv_imul hx hy dX6_bestSeed_47 ?_
          refine tI (pk_mul (4) (jx)) ?_
          refine lv_iadd hx hy dX6_bestSeed_48 ?_
          refine tI (nI_add (2) (4 * jx)) ?_
          refine lv_iconst (v := nI 2) hx hy dX6_bestSeed_49 (by decide) ?_
          refine lv_iadd hx hy dX6_bestSeed_50 ?_
          refine tI (nI_add (2 + 4 * jx) (2)) ?_
          refine lv_istore (lv' := [(4, .int (nI (2 + 4 * jx + 2))), (0, .ref (eA E 48)), (1, .int (nI jx)), (2, .int (nI jy)), (3, .int (nI jw))]) hx hy dX6_bestSeed_51 hl (by decide) rfl (fun ls hl => ?_)
          refine lv_aload_n hx hy dX6_bestSeed_53 rfl (lv_at hl 1 rfl) ?_
          refine gX6_all F hI L_X6_7 dX6_bestSeed_54 ?_
          refine lv_iload hx hy dX6_bestSeed_57 (lv_at hl 0 rfl) ?_
          refine aIlN F hI iX6_all (i := 2 + 4 * jx + 2) (by omega) (by decide) dX6_bestSeed_59 ?_
          refine tI ((RowM.w2 hA hljx).trans (wM_2 (by rw [hkk]; decide))) ?_
          refine lv_istore (lv' := [(5, .int (nI ((X.1.2.2 jx).2.2.1))), (4, .int (nI (2 + 4 * jx + 2))), (0, .ref (eA E 48)), (1, .int (nI jx)), (2, .int (nI jy)), (3, .int (nI jw))]) hx hy dX6_bestSeed_60 hl (by decide) rfl (fun ls hl => ?_)
          refine lv_iconst (v := nI 0) hx hy dX6_bestSeed_62 (by decide) ?_
          refine lv_istore (lv' := [(6, .int (nI 0)), (5, .int (nI ((X.1.2.2 jx).2.2.1))), (4, .int (nI (2 + 4 * jx + 2))), (0, .ref (eA E 48)), (1, .int (nI jx)), (2, .int (nI jy)), (3, .int (nI jw))]) hx hy dX6_bestSeed_63 hl (by decide) rfl (fun ls hl => ?_)
          refine lv_iconst (v := nI 0) hx hy dX6_bestSeed_65 (by decide) ?_
          refine lv_istore (lv' := [(7, .int (nI 0)), (6, .int (nI 0)), (5, .int (nI ((X.1.2.2 jx).2.2.1))), (4, .int (nI (2 + 4 * jx + 2))), (0, .ref (eA E 48)), (1, .int (nI jx)), (2, .int (nI jy)), (3, .int (nI jw))]) hx hy dX6_bestSeed_66 hl (by decide) rfl (fun ls hl => ?_)
          refine lv_iconst (v := nI 1) hx hy dX6_bestSeed_68 (by decide) ?_
          refine lv_istore (lv' := [(8, .int (nI 1)), (7, .int (nI 0)), (6, .int (nI 0)), (5, .int (nI ((X.1.2.2 jx).2.2.1))), (4, .int (nI (2 + 4 * jx + 2))), (0, .ref (eA E 48)), (1, .int (nI jx)), (2, .int (nI jy)), (3, .int (nI jw))]) hx hy dX6_bestSeed_69 hl (by decide) rfl (fun ls hl => ?_)
          have lp14 : ∀ (fu : Nat) (k : Nat) (c : CF), (k ≤ 255) → (255 - k < fu) → (∃ s0 : Nat, RowM c 41 0 (X.1.1, X.1.2.1, seedF X.1.2.2 jx s0)) → (ScrA u.1 c) →  ∀ (H : Heap) (locs : List Loc) (ls : Array Slot), Iv E s H locs ((c, u.2)) → lv_has ls 10 [(8, .int (nI (k + 1))), (7, .int (nI ((bsM X.1.2.2 jx jy X.1.2.1 k).2))), (6, .int (nI ((bsM X.1.2.2 jx jy X.1.2.1 k).1))), (5, .int (nI ((X.1.2.2 jx).2.2.1))), (4, .int (nI (2 + 4 * jx + 2))), (0, .ref (eA E 48)), (1, .int (nI jx)), (2, .int (nI jy)), (3, .int (nI jw))] → W p l e (Rm 4 92) s m args below meth co H locs 0 0 Q (F0 m 71 ls []) := by
            intro fu
            induction fu with
            | zero => intro k c hi hf hAw0 hSw; exact absurd hf (Nat.not_lt_zero _)
            | succ fu ih =>
              intro k c hi hf hAw0 hSw H locs ls hI hl
              obtain ⟨s0, hAw⟩ := hAw0
              have ih_71 := ih
              refine lv_iload hx hy dX6_bestSeed_71 (lv_at hl 0 rfl) ?_
              refine lv_sipush (v := nI 256) hx hy dX6_bestSeed_73 (by decide) ?_
              refine lv_icmp_ge (tgt := 145) hx hy dX6_bestSeed_76 (by decide) (fun h15 => ?_) (fun h15 => ?_)
              · have h15 : 256 ≤ k + 1 := (nI_leI (a := 256) (b := k + 1) (by omega) (by omega)).mp h15
                refine lv_aload_n hx hy dX6_bestSeed_145 rfl (lv_at hl 5 rfl) ?_
                refine gX6_all F hI L_X6_7 dX6_bestSeed_146 ?_
                refine lv_iload hx hy dX6_bestSeed_149 (lv_at hl 4 rfl) ?_
                refine lv_iload hx hy dX6_bestSeed_151 (lv_at hl 3 rfl) ?_
                refine aIsN F hI iX6_all (i := 2 + 4 * jx + 2) (by omega) (by decide) dX6_bestSeed_153 (fun H locs hI => ?_)
                obtain ⟨c16, ec16⟩ : ∃ z9 : CF, z9 = up c 41 (2 + 4 * jx + 2) (nI ((X.1.2.2 jx).2.2.1)) := ⟨_, rfl⟩
                have hI : Iv E s H locs (c16, u.2) := by rw [ec16]; exact hI
                have hAz : RowM c16 41 0 X.1 := by have h9 := seed_rowM (t := (X.1.2.2 jx).2.2.1) hAw hkk; rw [← ec16, seed_self] at h9; exact h9
                have hfin := ScrA.rep hC hX (show ScrA u.1 c16 by rw [ec16]; exact hSw.up) hAz
                have e8 : k = 255 := by omega
                refine lv_iload_n hx hy dX6_bestSeed_154 rfl (lv_at hl 8 rfl) ?_
                refine lv_if_ne (tgt := 163) hx hy dX6_bestSeed_155 (by decide) (fun h17 => ?_) (fun h17 => ?_)
                · have h17 : jw ≠ 0 := fun q9 => h17 ((nI_eq (a := jw) (b := 0) (by omega) (by omega)).mpr q9)
                  refine lv_iload hx hy dX6_bestSeed_163 (lv_at hl 1 rfl) ?_
                  exact rI hQ F (v := (c16, u.2)) hI dX6_bestSeed_165 (by rw [e8]; rw [a_best, withL_s hxx, withL_s hxy, withR_s hxw, if_neg (fun q9 => q9 hkk)]; exact ⟨(if_neg h17).symm, hfin⟩)
                · have h17 : jw = 0 := (nI_eq (a := jw) (b := 0) (by omega) (by omega)).mp h17
                  refine lv_iload hx hy dX6_bestSeed_158 (lv_at hl 2 rfl) ?_
                  refine lv_goto (tgt := 165) hx hy dX6_bestSeed_160 (by decide) ?_
                  exact rI hQ F (v := (c16, u.2)) hI dX6_bestSeed_165 (by rw [e8]; rw [a_best, withL_s hxx, withL_s hxy, withR_s hxw, if_neg (fun q9 => q9 hkk)]; exact ⟨(if_pos h17).symm, hfin⟩)
              · have h15 : k + 1 < 256 := Nat.lt_of_not_le (fun q9 => h15 ((nI_leI (a := 256) (b := k + 1) (by omega) (by omega)).mpr q9))
                refine lv_aload_n hx hy dX6_bestSeed_79 rfl (lv_at hl 5 rfl) ?_
                refine gX6_all F hI L_X6_7 dX6_bestSeed_80 ?_
                refine lv_iload hx hy dX6_bestSeed_83 (lv_at hl 4 rfl) ?_
                refine lv_iload hx hy dX6_bestSeed_85 (lv_at hl 0 rfl) ?_
                refine aIsN F hI iX6_all (i := 2 + 4 * jx + 2) (by omega) (by decide) dX6_bestSeed_87 (fun H locs hI => ?_)
                obtain ⟨c18, ec18⟩ : ∃ z9 : CF, z9 = up c 41 (2 + 4 * jx + 2) (nI (k + 1)) := ⟨_, rfl⟩
                have hI : Iv E s H locs (c18, u.2) := by rw [ec18]; exact hI
                have hAn : RowM c18 41 0 (X.1.1, X.1.2.1, seedF X.1.2.2 jx (k + 1)) := by rw [ec18]; exact seed_rowM hAw hkk
                have hSn : ScrA u.1 c18 := by rw [ec18]; exact hSw.up
                have hzn := seed_sg (s := k + 1) hX.1 hkk (by omega) (by omega)
                have hbl := bsM_le (k := k) hse (by omega)
                have hei := hse (k + 1) (by omega) (by omega)
                refine lv_aload_n hx hy dX6_bestSeed_88 rfl (lv_at hl 5 rfl) ?_
                refine lv_iload_n hx hy dX6_bestSeed_89 rfl (lv_at hl 7 rfl) ?_
                refine lv_aload_n hx hy dX6_bestSeed_90 rfl (lv_at hl 5 rfl) ?_
                refine gX6_all F hI L_X6_7 dX6_bestSeed_91 ?_
                refine lv_iconst (v := nI 1) hx hy dX6_bestSeed_94 (by decide) ?_
                refine aIlN F hI iX6_all (i := 1) (by omega) (by decide) dX6_bestSeed_95 ?_
                refine tI (show _ = c18 41 1 from rfl) ?_
                refine tI hAn.2.1 ?_
                refine zI hI (xV F hI hl (kX6_errorOf l E ((c18, u.2)) (z := (X.1.1, X.1.2.1, seedF X.1.2.2 jx (k + 1))) hAn hzn jy (X.1.2.1) hljy (by omega) (by omega)) M_X6_203 (rX6 F hI) rfl ⟨Nat.le_of_ble_eq_true rfl, Nat.le_of_ble_eq_true rfl⟩ ⟨Nat.zero_le _, Nat.zero_le _⟩ rfl (Nat.le_of_ble_eq_true rfl) dX6_bestSeed_96) (fun r20 v21 H locs hI hp19 => ?_)
                obtain ⟨hpr22, hqo23⟩ := hp19
                have hAm : RowM v21 41 0 (X.1.1, X.1.2.1, seedF X.1.2.2 jx (k + 1)) := hqo23.row hAn hzn
                have hSm : ScrA u.1 v21 := hSn.qo hqo23
                refine tI (show _ = nI (errS X.1.2.2 jx jy X.1.2.1 (k + 1)) from hpr22) ?_
                refine lv_istore (lv' := [(9, .int (nI (errS X.1.2.2 jx jy X.1.2.1 (k + 1)))), (8, .int (nI (k + 1))), (7, .int (nI ((bsM X.1.2.2 jx jy X.1.2.1 k).2))), (6, .int (nI ((bsM X.1.2.2 jx jy X.1.2.1 k).1))), (5, .int (nI ((X.1.2.2 jx).2.2.1))), (4, .int (nI (2 + 4 * jx + 2))), (0, .ref (eA E 48)), (1, .int (nI jx)), (2, .int (nI jy)), (3, .int (nI jw))]) hx hy dX6_bestSeed_99 hl (by decide) rfl (fun ls hl => ?_)
                refine lv_iload hx hy dX6_bestSeed_101 (lv_at hl 1 rfl) ?_
                refine lv_iconst (v := nI 1) hx hy dX6_bestSeed_103 (by decide) ?_
                refine lv_icmp_eq (tgt := 114) hx hy dX6_bestSeed_104 (by decide) (fun h24 => ?_) (fun h24 => ?_)
                · have h24 : k + 1 = 1 := (nI_eq (a := k + 1) (b := 1) (by omega) (by omega)).mp h24
                  refine lv_iload hx hy dX6_bestSeed_114 (lv_at hl 1 rfl) ?_
                  refine lv_goto (tgt := 121) hx hy dX6_bestSeed_116 (by decide) ?_
                  refine lv_istore (lv' := [(6, .int (nI (k + 1))), (9, .int (nI (errS X.1.2.2 jx jy X.1.2.1 (k + 1)))), (8, .int (nI (k + 1))), (7, .int (nI ((bsM X.1.2.2 jx jy X.1.2.1 k).2))), (5, .int (nI ((X.1.2.2 jx).2.2.1))), (4, .int (nI (2 + 4 * jx + 2))), (0, .ref (eA E 48)), (1, .int (nI jx)), (2, .int (nI jy)), (3, .int (nI jw))]) hx hy dX6_bestSeed_121 hl (by decide) rfl (fun ls hl => ?_)
                  refine lv_iload hx hy dX6_bestSeed_123 (lv_at hl 0 rfl) ?_
                  refine lv_iload hx hy dX6_bestSeed_125 (lv_at hl 2 rfl) ?_
                  refine lv_icmp_ne (tgt := 135) hx hy dX6_bestSeed_127 (by decide) (fun h25 => ?_) (fun h25 => ?_)
                  · have h25 : k + 1 ≠ k + 1 := fun q9 => h25 ((nI_eq (a := k + 1) (b := k + 1) (by omega) (by omega)).mpr q9)
                    refine lv_iload hx hy dX6_bestSeed_135 (lv_at hl 3 rfl) ?_
                    refine lv_istore (lv' := [(7, .int (nI ((bsM X.1.2.2 jx jy X.1.2.1 k).2))), (6, .int (nI (k + 1))), (9, .int (nI (errS X.1.2.2 jx jy X.1.2.1 (k + 1)))), (8, .int (nI (k + 1))), (5, .int (nI ((X.1.2.2 jx).2.2.1))), (4, .int (nI (2 + 4 * jx + 2))), (0, .ref (eA E 48)), (1, .int (nI jx)), (2, .int (nI jy)), (3, .int (nI jw))]) hx hy dX6_bestSeed_137 hl (by decide) rfl (fun ls hl => ?_)
                    exfalso; omega
                  · have h25 : k + 1 = k + 1 := (nI_eq (a := k + 1) (b := k + 1) (by omega) (by omega)).mp h25
                    refine lv_iload hx hy dX6_bestSeed_130 (lv_at hl 1 rfl) ?_
                    refine lv_goto (tgt := 137) hx hy dX6_bestSeed_132 (by decide) ?_
                    refine lv_istore (lv' := [(7, .int (nI (errS X.1.2.2 jx jy X.1.2.1 (k + 1)))), (6, .int (nI (k + 1))), (9, .int (nI (errS X.1.2.2 jx jy X.1.2.1 (k + 1)))), (8, .int (nI (k + 1))), (5, .int (nI ((X.1.2.2 jx).2.2.1))), (4, .int (nI (2 + 4 * jx + 2))), (0, .ref (eA E 48)), (1, .int (nI jx)), (2, .int (nI jy)), (3, .int (nI jw))]) hx hy dX6_bestSeed_137 hl (by decide) rfl (fun ls hl => ?_)
                    have e7 : bsM X.1.2.2 jx jy X.1.2.1 (k + 1) = (k + 1, errS X.1.2.2 jx jy X.1.2.1 (k + 1)) := (by rcases Nat.eq_zero_or_pos k with e6 | e6; subst e6; rfl; exact bsM_lt (by omega) (by omega))
                    have hl : lv_has ls 10 [(7, .int (nI ((bsM X.1.2.2 jx jy X.1.2.1 (k + 1)).2))), (6, .int (nI ((bsM X.1.2.2 jx jy X.1.2.1 (k + 1)).1))), (9, .int (nI (errS X.1.2.2 jx jy X.1.2.1 (k + 1)))), (8, .int (nI (k + 1))), (5, .int (nI ((X.1.2.2 jx).2.2.1))), (4, .int (nI (2 + 4 * jx + 2))), (0, .ref (eA E 48)), (1, .int (nI jx)), (2, .int (nI jy)), (3, .int (nI jw))] := by rw [e7]; exact hl
                    refine lv_iinc (v := nI (k + 1 + 1)) (lv' := [(8, .int (nI (k + 1 + 1))), (7, .int (nI ((bsM X.1.2.2 jx jy X.1.2.1 (k + 1)).2))), (6, .int (nI ((bsM X.1.2.2 jx jy X.1.2.1 (k + 1)).1))), (9, .int (nI (errS X.1.2.2 jx jy X.1.2.1 (k + 1)))), (5, .int (nI ((X.1.2.2 jx).2.2.1))), (4, .int (nI (2 + 4 * jx + 2))), (0, .ref (eA E 48)), (1, .int (nI jx)), (2, .int (nI jy)), (3, .int (nI jw))]) hx hy dX6_bestSeed_139 hl (k := 3) rfl (nI_add (k + 1) 1) (by decide) rfl (fun ls hl => ?_)
                    refine lv_goto (tgt := 71) hx hy dX6_bestSeed_142 (by decide) ?_
                    exact ih_71 (k + 1) v21 (by omega) (by omega) ⟨_, hAm⟩ hSm _ _ _ hI (lv_sub hl [0, 1, 2, 4, 5, 6, 7, 8, 9] rfl)
                · have h24 : k + 1 ≠ 1 := fun q9 => h24 ((nI_eq (a := k + 1) (b := 1) (by omega) (by omega)).mpr q9)
                  refine lv_iload hx hy dX6_bestSeed_107 (lv_at hl 0 rfl) ?_
                  refine lv_iload hx hy dX6_bestSeed_109 (lv_at hl 2 rfl) ?_
                  refine lv_icmp_ge (tgt := 119) hx hy dX6_bestSeed_111 (by decide) (fun h26 => ?_) (fun h26 => ?_)
                  · have h26 : (bsM X.1.2.2 jx jy X.1.2.1 k).2 ≤ errS X.1.2.2 jx jy X.1.2.1 (k + 1) := (nI_leI (a := (bsM X.1.2.2 jx jy X.1.2.1 k).2) (b := errS X.1.2.2 jx jy X.1.2.1 (k + 1)) (by omega) (by omega)).mp h26
                    refine lv_iload hx hy dX6_bestSeed_119 (lv_at hl 3 rfl) ?_
                    refine lv_istore (lv' := [(6, .int (nI ((bsM X.1.2.2 jx jy X.1.2.1 k).1))), (9, .int (nI (errS X.1.2.2 jx jy X.1.2.1 (k + 1)))), (8, .int (nI (k + 1))), (7, .int (nI ((bsM X.1.2.2 jx jy X.1.2.1 k).2))), (5, .int (nI ((X.1.2.2 jx).2.2.1))), (4, .int (nI (2 + 4 * jx + 2))), (0, .ref (eA E 48)), (1, .int (nI jx)), (2, .int (nI jy)), (3, .int (nI jw))]) hx hy dX6_bestSeed_121 hl (by decide) rfl (fun ls hl => ?_)
                    refine lv_iload hx hy dX6_bestSeed_123 (lv_at hl 0 rfl) ?_
                    refine lv_iload hx hy dX6_bestSeed_125 (lv_at hl 2 rfl) ?_
                    refine lv_icmp_ne (tgt := 135) hx hy dX6_bestSeed_127 (by decide) (fun h27 => ?_) (fun h27 => ?_)
                    · have h27 : (bsM X.1.2.2 jx jy X.1.2.1 k).1 ≠ k + 1 := fun q9 => h27 ((nI_eq (a := (bsM X.1.2.2 jx jy X.1.2.1 k).1) (b := k + 1) (by omega) (by omega)).mpr q9)
                      refine lv_iload hx hy dX6_bestSeed_135 (lv_at hl 3 rfl) ?_
                      refine lv_istore (lv' := [(7, .int (nI ((bsM X.1.2.2 jx jy X.1.2.1 k).2))), (6, .int (nI ((bsM X.1.2.2 jx jy X.1.2.1 k).1))), (9, .int (nI (errS X.1.2.2 jx jy X.1.2.1 (k + 1)))), (8, .int (nI (k + 1))), (5, .int (nI ((X.1.2.2 jx).2.2.1))), (4, .int (nI (2 + 4 * jx + 2))), (0, .ref (eA E 48)), (1, .int (nI jx)), (2, .int (nI jy)), (3, .int (nI jw))]) hx hy dX6_bestSeed_137 hl (by decide) rfl (fun ls hl => ?_)
                      have e7 : bsM X.1.2.2 jx jy X.1.2.1 (k + 1) = bsM X.1.2.2 jx jy X.1.2.1 k := (bsM_ge (by omega) (by omega))
                      have hl : lv_has ls 10 [(7, .int (nI ((bsM X.1.2.2 jx jy X.1.2.1 (k + 1)).2))), (6, .int (nI ((bsM X.1.2.2 jx jy X.1.2.1 (k + 1)).1))), (9, .int (nI (errS X.1.2.2 jx jy X.1.2.1 (k + 1)))), (8, .int (nI (k + 1))), (5, .int (nI ((X.1.2.2 jx).2.2.1))), (4, .int (nI (2 + 4 * jx + 2))), (0, .ref (eA E 48)), (1, .int (nI jx)), (2, .int (nI jy)), (3, .int (nI jw))] := by rw [e7]; exact hl
                      refine lv_iinc (v := nI (k + 1 + 1)) (lv' := [(8, .int (nI (k + 1 + 1))), (7, .int (nI ((bsM X.1.2.2 jx jy X.1.2.1 (k + 1)).2))), (6, .int (nI ((bsM X.1.2.2 jx jy X.1.2.1 (k + 1)).1))), (9, .int (nI (errS X.1.2.2 jx jy X.1.2.1 (k + 1)))), (5, .int (nI ((X.1.2.2 jx).2.2.1))), (4, .int (nI (2 + 4 * jx + 2))), (0, .ref (eA E 48)), (1, .int (nI jx)), (2, .int (nI jy)), (3, .int (nI jw))]) hx hy dX6_bestSeed_139 hl (k := 3) rfl (nI_add (k + 1) 1) (by decide) rfl (fun ls hl => ?_)
                      refine lv_goto (tgt := 71) hx hy dX6_bestSeed_142 (by decide) ?_
                      exact ih_71 (k + 1) v21 (by omega) (by omega) ⟨_, hAm⟩ hSm _ _ _ hI (lv_sub hl [0, 1, 2, 4, 5, 6, 7, 8, 9] rfl)
                    · have h27 : (bsM X.1.2.2 jx jy X.1.2.1 k).1 = k + 1 := (nI_eq (a := (bsM X.1.2.2 jx jy X.1.2.1 k).1) (b := k + 1) (by omega) (by omega)).mp h27
                      refine lv_iload hx hy dX6_bestSeed_130 (lv_at hl 1 rfl) ?_
                      refine lv_goto (tgt := 137) hx hy dX6_bestSeed_132 (by decide) ?_
                      refine lv_istore (lv' := [(7, .int (nI (errS X.1.2.2 jx jy X.1.2.1 (k + 1)))), (6, .int (nI ((bsM X.1.2.2 jx jy X.1.2.1 k).1))), (9, .int (nI (errS X.1.2.2 jx jy X.1.2.1 (k + 1)))), (8, .int (nI (k + 1))), (5, .int (nI ((X.1.2.2 jx).2.2.1))), (4, .int (nI (2 + 4 * jx + 2))), (0, .ref (eA E 48)), (1, .int (nI jx)), (2, .int (nI jy)), (3, .int (nI jw))]) hx hy dX6_bestSeed_137 hl (by decide) rfl (fun ls hl => ?_)
                      exfalso; omega
                  · have h26 : errS X.1.2.2 jx jy X.1.2.1 (k + 1) < (bsM X.1.2.2 jx jy X.1.2.1 k).2 := Nat.lt_of_not_le (fun q9 => h26 ((nI_leI (a := (bsM X.1.2.2 jx jy X.1.2.1 k).2) (b := errS X.1.2.2 jx jy X.1.2.1 (k + 1)) (by omega) (by omega)).mpr q9))
                    refine lv_iload hx hy dX6_bestSeed_114 (lv_at hl 1 rfl) ?_
                    refine lv_goto (tgt := 121) hx hy dX6_bestSeed_116 (by decide) ?_
                    refine lv_istore (lv' := [(6, .int (nI (k + 1))), (9, .int (nI (errS X.1.2.2 jx jy X.1.2.1 (k + 1)))), (8, .int (nI (k + 1))), (7, .int (nI ((bsM X.1.2.2 jx jy X.1.2.1 k).2))), (5, .int (nI ((X.1.2.2 jx).2.2.1))), (4, .int (nI (2 + 4 * jx + 2))), (0, .ref (eA E 48)), (1, .int (nI jx)), (2, .int (nI jy)), (3, .int (nI jw))]) hx hy dX6_bestSeed_121 hl (by decide) rfl (fun ls hl => ?_)
                    refine lv_iload hx hy dX6_bestSeed_123 (lv_at hl 0 rfl) ?_
                    refine lv_iload hx hy dX6_bestSeed_125 (lv_at hl 2 rfl) ?_
                    refine lv_icmp_ne (tgt := 135) hx hy dX6_bestSeed_127 (by decide) (fun h28 => ?_) (fun h28 => ?_)
                    · have h28 : k + 1 ≠ k + 1 := fun q9 => h28 ((nI_eq (a := k + 1) (b := k + 1) (by omega) (by omega)).mpr q9)
                      refine lv_iload hx hy dX6_bestSeed_135 (lv_at hl 3 rfl) ?_
                      refine lv_istore (lv' := [(7, .int (nI ((bsM X.1.2.2 jx jy X.1.2.1 k).2))), (6, .int (nI (k + 1))), (9, .int (nI (errS X.1.2.2 jx jy X.1.2.1 (k + 1)))), (8, .int (nI (k + 1))), (5, .int (nI ((X.1.2.2 jx).2.2.1))), (4, .int (nI (2 + 4 * jx + 2))), (0, .ref (eA E 48)), (1, .int (nI jx)), (2, .int (nI jy)), (3, .int (nI jw))]) hx hy dX6_bestSeed_137 hl (by decide) rfl (fun ls hl => ?_)
                      exfalso; omega
                    · have h28 : k + 1 = k + 1 := (nI_eq (a := k + 1) (b := k + 1) (by omega) (by omega)).mp h28
                      refine lv_iload hx hy dX6_bestSeed_130 (lv_at hl 1 rfl) ?_
                      refine lv_goto (tgt := 137) hx hy dX6_bestSeed_132 (by decide) ?_
                      refine lv_istore (lv' := [(7, .int (nI (errS X.1.2.2 jx jy X.1.2.1 (k + 1)))), (6, .int (nI (k + 1))), (9, .int (nI (errS X.1.2.2 jx jy X.1.2.1 (k + 1)))), (8, .int (nI (k + 1))), (5, .int (nI ((X.1.2.2 jx).2.2.1))), (4, .int (nI (2 + 4 * jx + 2))), (0, .ref (eA E 48)), (1, .int (nI jx)), (2, .int (nI jy)), (3, .int (nI jw))]) hx hy dX6_bestSeed_137 hl (by decide) rfl (fun ls hl => ?_)
                      have e7 : bsM X.1.2.2 jx jy X.1.2.1 (k + 1) = (k + 1, errS X.1.2.2 jx jy X.1.2.1 (k + 1)) := (by rcases Nat.eq_zero_or_pos k with e6 | e6; subst e6; rfl; exact bsM_lt (by omega) (by omega))
                      have hl : lv_has ls 10 [(7, .int (nI ((bsM X.1.2.2 jx jy X.1.2.1 (k + 1)).2))), (6, .int (nI ((bsM X.1.2.2 jx jy X.1.2.1 (k + 1)).1))), (9, .int (nI (errS X.1.2.2 jx jy X.1.2.1 (k + 1)))), (8, .int (nI (k + 1))), (5, .int (nI ((X.1.2.2 jx).2.2.1))), (4, .int (nI (2 + 4 * jx + 2))), (0, .ref (eA E 48)), (1, .int (nI jx)), (2, .int (nI jy)), (3, .int (nI jw))] := by rw [e7]; exact hl
                      refine lv_iinc (v := nI (k + 1 + 1)) (lv' := [(8, .int (nI (k + 1 + 1))), (7, .int (nI ((bsM X.1.2.2 jx jy X.1.2.1 (k + 1)).2))), (6, .int (nI ((bsM X.1.2.2 jx jy X.1.2.1 (k + 1)).1))), (9, .int (nI (errS X.1.2.2 jx jy X.1.2.1 (k + 1)))), (5, .int (nI ((X.1.2.2 jx).2.2.1))), (4, .int (nI (2 + 4 * jx + 2))), (0, .ref (eA E 48)), (1, .int (nI jx)), (2, .int (nI jy)), (3, .int (nI jw))]) hx hy dX6_bestSeed_139 hl (k := 3) rfl (nI_add (k + 1) 1) (by decide) rfl (fun ls hl => ?_)
                      refine lv_goto (tgt := 71) hx hy dX6_bestSeed_142 (by decide) ?_
                      exact ih_71 (k + 1) v21 (by omega) (by omega) ⟨_, hAm⟩ hSm _ _ _ hI (lv_sub hl [0, 1, 2, 4, 5, 6, 7, 8, 9] rfl)
          exact lp14 256 0 u.1 (by omega) (by omega) ⟨_, hAs⟩ (ScrA.rf _) _ _ _ hI (lv_sub hl [0, 1, 2, 3, 4, 5, 6, 7, 8] rfl)
        · have h13 : (X.1.2.2 jx).1 ≠ 0 := fun q9 => h13 ((nI_eq (a := (X.1.2.2 jx).1) (b := 0) (by omega) (by omega)).mpr q9)
          refine zc F K_X6_104 dX6_bestSeed_41 ?_
          exact rI hQ F (v := (u.1, u.2)) hI dX6_bestSeed_43 (by rw [a_best, withL_s hxx, withL_s hxy, withR_s hxw, if_pos h13]; exact ⟨rfl, hC, SameC.rf _⟩)
