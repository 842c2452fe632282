set_option maxHeartbeats 400000 in
set_option maxRecDepth 100000 in
theorem kX5_lineWithGreatestError (l : Launch) (E : EV) (u : SS) {X : XS} (hC : RepC u.1 X) (hX : XOk X) : CT l yX5_lineWithGreatestError cX5_lineWithGreatestError 5 (some .int) (Rm 6 141) [.ref (eA E 0)] E u (Q_i E (fun r v => r = wrI (wrst X.1.2.2 X.1.2.1 X.1.1) ∧ Scr u.1 v.1) (fun (v : SS) => v)) := by
  refine mstart RX5 (by decide +kernel) rfl (Nat.le_of_ble_eq_true rfl) ?_
  intro p e s m args below meth co ls Q hQ F hI hl
  have hx := F.1
  have hy := F.2.1
  have hl : lv_has ls 5 [(0, .ref (eA E 0))] := hl
  have hC2 := hC
  obtain ⟨hB, ⟨o, hH⟩, hS, hT⟩ := hC2
  have hn16 := hX.1.1
  have hl1 := hX.1.2.1
  have hl2 := hX.1.2.2.1
  have hh4 := hX.2.1.1
  have ht80 := hT.2.1
  have hee : ∀ j, j < X.1.1 → errN X.1.2.2 j X.1.2.1 ≤ 65536 := fun j hj => errN_le (ex_le hX.1.2.2.2 j hj)
  refine lv_aload_n hx hy dX5_lineWithGreatestError_0 rfl (lv_at hl 0 rfl) ?_
  refine zV hI (xV F hI hl (kX5_fillAll l E (u) hC hX) M_X5_207 (rX5 F hI) rfl ⟨Nat.le_of_ble_eq_true rfl, Nat.le_of_ble_eq_true rfl⟩ ⟨Nat.zero_le _, Nat.zero_le _⟩ rfl (Nat.le_of_ble_eq_true rfl) dX5_lineWithGreatestError_1) (fun v3 H locs hI hp1 => ?_)
  have hsc4 : Scr u.1 v3.1 := hp1.1
  have hCs5 := hsc4.rep hC
  have hBhCs5 : RepB 0 v3.1 X.1 := hCs5.1
  refine zc F K_X5_81 dX5_lineWithGreatestError_4 ?_
  refine lv_istore_n (lv' := [(1, .int ((-100000005))), (0, .ref (eA E 0))]) hx hy dX5_lineWithGreatestError_6 rfl hl (by decide) rfl (fun ls hl => ?_)
  refine lv_iconst (v := (-1)) hx hy dX5_lineWithGreatestError_7 (by decide) ?_
  refine lv_istore_n (lv' := [(2, .int ((-1))), (1, .int ((-100000005))), (0, .ref (eA E 0))]) hx hy dX5_lineWithGreatestError_8 rfl hl (by decide) rfl (fun ls hl => ?_)
  refine lv_iconst (v := nI 0) hx hy dX5_lineWithGreatestError_9 (by decide) ?_
  refine lv_istore_n (lv' := [(3, .int (nI 0)), (2, .int ((-1))), (1, .int ((-100000005))), (0, .ref (eA E 0))]) hx hy dX5_lineWithGreatestError_10 rfl hl (by decide) rfl (fun ls hl => ?_)
  have lp6 : ∀ (fu : Nat) (i : Nat), (i ≤ X.1.1) → (X.1.1 - i < fu) →  ∀ (H : Heap) (locs : List Loc) (ls : Array Slot), Iv E s H locs (v3) → lv_has ls 5 [(3, .int (nI i)), (1, .int (wrI (wrst X.1.2.2 X.1.2.1 i))), (2, .int (wrG (wrst X.1.2.2 X.1.2.1 i))), (0, .ref (eA E 0))] → W p l e (Rm 6 141) s m args below meth co H locs 0 0 Q (F0 m 11 ls []) := by
    intro fu
    induction fu with
    | zero => intro i hi hf; exact absurd hf (Nat.not_lt_zero _)
    | succ fu ih =>
      intro i hi hf H locs ls hI hl
      have ih_11 := ih
      refine lv_iload_n hx hy dX5_lineWithGreatestError_11 rfl (lv_at hl 0 rfl) ?_
      refine lv_aload_n hx hy dX5_lineWithGreatestError_12 rfl (lv_at hl 3 rfl) ?_
      refine gX5_bench F hI L_X5_10 dX5_lineWithGreatestError_13 ?_
      refine gX0_size F hI (b := 0) (by decide) L_X5_90 dX5_lineWithGreatestError_16 ?_
      refine tI (show _ = v3.1 2 0 from rfl) ?_
      refine tI hBhCs5.2.1 ?_
      refine lv_icmp_ge (tgt := 53) hx hy dX5_lineWithGreatestError_19 (by decide) (fun h7 => ?_) (fun h7 => ?_)
      · have h7 : X.1.1 ≤ i := (nI_leI (a := X.1.1) (b := i) (by omega) (by omega)).mp h7
        refine lv_iload_n hx hy dX5_lineWithGreatestError_53 rfl (lv_at hl 1 rfl) ?_
        exact rI hQ F (v := (v3.1, v3.2)) hI dX5_lineWithGreatestError_54 ⟨by rw [show i = X.1.1 from by omega], hsc4⟩
      · have h7 : i < X.1.1 := Nat.lt_of_not_le (fun q9 => h7 ((nI_leI (a := X.1.1) (b := i) (by omega) (by omega)).mpr q9))
        refine lv_aload_n hx hy dX5_lineWithGreatestError_22 rfl (lv_at hl 3 rfl) ?_
        refine lv_iload_n hx hy dX5_lineWithGreatestError_23 rfl (lv_at hl 0 rfl) ?_
        refine lv_aload_n hx hy dX5_lineWithGreatestError_24 rfl (lv_at hl 3 rfl) ?_
        refine gX5_bench F hI L_X5_10 dX5_lineWithGreatestError_25 ?_
        refine gX0_length F hI (b := 0) (by decide) L_X5_97 dX5_lineWithGreatestError_28 ?_
        refine tI (show _ = v3.1 1 0 from rfl) ?_
        refine tI hBhCs5.1 ?_
        refine zI hI (xV F hI hl (kX5_errorOfFilled l E (v3) (f := X.1.2.2) (w := ((X.1.2.1) + 64 - 1) / 64) i (X.1.2.1) (by omega) (hp1.2.2 i (by omega)) (by omega) (hp1.2.1.1 i (by omega)) (ex_le hX.1.2.2.2 _ (by omega)) (by omega) (by omega)) M_X5_194 (rX5 F hI) rfl ⟨Nat.le_of_ble_eq_true rfl, Nat.le_of_ble_eq_true rfl⟩ ⟨Nat.zero_le _, Nat.zero_le _⟩ rfl (Nat.le_of_ble_eq_true rfl) dX5_lineWithGreatestError_31) (fun r9 v10 H locs hI hp8 => ?_)
        subst hp8
        refine lv_istore (lv' := [(4, .int (nI (errN X.1.2.2 i X.1.2.1))), (3, .int (nI i)), (1, .int (wrI (wrst X.1.2.2 X.1.2.1 i))), (2, .int (wrG (wrst X.1.2.2 X.1.2.1 i))), (0, .ref (eA E 0))]) hx hy dX5_lineWithGreatestError_34 hl (by decide) rfl (fun ls hl => ?_)
        rcases hw : wrst X.1.2.2 X.1.2.1 i with _ | ⟨ww, gg⟩
        · have hl : lv_has ls 5 [(4, .int (nI (errN X.1.2.2 i X.1.2.1))), (3, .int (nI i)), (1, .int (NON)), (2, .int ((-1))), (0, .ref (eA E 0))] := by rw [hw] at hl; exact hl
          refine lv_iload hx hy dX5_lineWithGreatestError_36 (lv_at hl 0 rfl) ?_
          refine lv_iload_n hx hy dX5_lineWithGreatestError_38 rfl (lv_at hl 3 rfl) ?_
          refine lv_icmp_le (tgt := 47) hx hy dX5_lineWithGreatestError_39 (by decide) (fun q => absurd q (m1_ge (by have := hee i (by omega); omega))) (fun h11 => ?_)
          refine lv_iload hx hy dX5_lineWithGreatestError_42 (lv_at hl 0 rfl) ?_
          refine lv_istore_n (lv' := [(2, .int (nI (errN X.1.2.2 i X.1.2.1))), (4, .int (nI (errN X.1.2.2 i X.1.2.1))), (3, .int (nI i)), (1, .int (NON)), (0, .ref (eA E 0))]) hx hy dX5_lineWithGreatestError_44 rfl hl (by decide) rfl (fun ls hl => ?_)
          refine lv_iload_n hx hy dX5_lineWithGreatestError_45 rfl (lv_at hl 2 rfl) ?_
          refine lv_istore_n (lv' := [(1, .int (nI i)), (2, .int (nI (errN X.1.2.2 i X.1.2.1))), (4, .int (nI (errN X.1.2.2 i X.1.2.1))), (3, .int (nI i)), (0, .ref (eA E 0))]) hx hy dX5_lineWithGreatestError_46 rfl hl (by decide) rfl (fun ls hl => ?_)
          have e7 : wrst X.1.2.2 X.1.2.1 (i + 1) = _ := wr_none hw
          have hl : lv_has ls 5 [(1, .int (wrI (wrst X.1.2.2 X.1.2.1 (i + 1)))), (2, .int (wrG (wrst X.1.2.2 X.1.2.1 (i + 1)))), (4, .int (nI (errN X.1.2.2 i X.1.2.1))), (3, .int (nI i)), (0, .ref (eA E 0))] := by rw [e7]; exact hl
          refine lv_iinc (v := nI (i + 1)) (lv' := [(3, .int (nI (i + 1))), (1, .int (wrI (wrst X.1.2.2 X.1.2.1 (i + 1)))), (2, .int (wrG (wrst X.1.2.2 X.1.2.1 (i + 1)))), (4, .int (nI (errN X.1.2.2 i X.1.2.1))), (0, .ref (eA E 0))]) hx hy dX5_lineWithGreatestError_47 hl (k := 3) rfl (nI_add (i) 1) (by decide) rfl (fun ls hl => ?_)
          refine lv_goto (tgt := 11) hx hy dX5_lineWithGreatestError_50 (by decide) ?_
          exact ih_11 (i + 1) (by omega) (by omega) _ _ _ hI (lv_sub hl [0, 1, 2, 4] rfl)
        · have hwb := wr_bnd hee i (by omega) ww gg hw
          have hl : lv_has ls 5 [(4, .int (nI (errN X.1.2.2 i X.1.2.1))), (3, .int (nI i)), (1, .int (nI ww)), (2, .int (nI gg)), (0, .ref (eA E 0))] := by rw [hw] at hl; exact hl
          refine lv_iload hx hy dX5_lineWithGreatestError_36 (lv_at hl 0 rfl) ?_
          refine lv_iload_n hx hy dX5_lineWithGreatestError_38 rfl (lv_at hl 3 rfl) ?_
          refine lv_icmp_le (tgt := 47) hx hy dX5_lineWithGreatestError_39 (by decide) (fun h12 => ?_) (fun h12 => ?_)
          · have h12 : errN X.1.2.2 i X.1.2.1 ≤ gg := (nI_leI (a := errN X.1.2.2 i X.1.2.1) (b := gg) (by have := hee i (by omega); omega) (by omega)).mp h12
            have e7 : wrst X.1.2.2 X.1.2.1 (i + 1) = _ := wr_le hw (by omega)
            have hl : lv_has ls 5 [(4, .int (nI (errN X.1.2.2 i X.1.2.1))), (3, .int (nI i)), (1, .int (wrI (wrst X.1.2.2 X.1.2.1 (i + 1)))), (2, .int (wrG (wrst X.1.2.2 X.1.2.1 (i + 1)))), (0, .ref (eA E 0))] := by rw [e7]; exact hl
            refine lv_iinc (v := nI (i + 1)) (lv' := [(3, .int (nI (i + 1))), (4, .int (nI (errN X.1.2.2 i X.1.2.1))), (1, .int (wrI (wrst X.1.2.2 X.1.2.1 (i + 1)))), (2, .int (wrG (wrst X.1.2.2 X.1.2.1 (i + 1)))), (0, .ref (eA E 0))]) hx hy dX5_lineWithGreatestError_47 hl (k := 1) rfl (nI_add (i) 1) (by decide) rfl (fun ls hl => ?_)
            refine lv_goto (tgt := 11) hx hy dX5_lineWithGreatestError_50 (by decide) ?_
            exact ih_11 (i + 1) (by omega) (by omega) _ _ _ hI (lv_sub hl [0, 2, 3, 4] rfl)
          · have h12 : gg < errN X.1.2.2 i X.1.2.1 := Nat.lt_of_not_le (fun q9 => h12 ((nI_leI (a := errN X.1.2.2 i X.1.2.1) (b := gg) (by have := hee i (by omega); omega) (by omega)).mpr q9))
            refine lv_iload hx hy dX5_lineWithGreatestError_42 (lv_at hl 0 rfl) ?_
            refine lv_istore_n (lv' := [(2, .int (nI (errN X.1.2.2 i X.1.2.1))), (4, .int (nI (errN X.1.2.2 i X.1.2.1))), (3, .int (nI i)), (1, .int (nI ww)), (0, .ref (eA E 0))]) hx hy dX5_lineWithGreatestError_44 rfl hl (by decide) rfl (fun ls hl => ?_)
            refine lv_iload_n hx hy dX5_lineWithGreatestError_45 rfl (lv_at hl 2 rfl) ?_
            refine lv_istore_n (lv' := [(1, .int (nI i)), (2, .int (nI (errN X.1.2.2 i X.1.2.1))), (4, .int (nI (errN X.1.2.2 i X.1.2.1))), (3, .int (nI i)), (0, .ref (eA E 0))]) hx hy dX5_lineWithGreatestError_46 rfl hl (by decide) rfl (fun ls hl => ?_)
            have e7 : wrst X.1.2.2 X.1.2.1 (i + 1) = _ := wr_gt hw (by omega)
            have hl : lv_has ls 5 [(1, .int (wrI (wrst X.1.2.2 X.1.2.1 (i + 1)))), (2, .int (wrG (wrst X.1.2.2 X.1.2.1 (i + 1)))), (4, .int (nI (errN X.1.2.2 i X.1.2.1))), (3, .int (nI i)), (0, .ref (eA E 0))] := by rw [e7]; exact hl
            refine lv_iinc (v := nI (i + 1)) (lv' := [(3, .int (nI (i + 1))), (1, .int (wrI (wrst X.1.2.2 X.1.2.1 (i + 1)))), (2, .int (wrG (wrst X.1.2.2 X.1.2.1 (i + 1)))), (4, .int (nI (errN X.1.2.2 i X.1.2.1))), (0, .ref (eA E 0))]) hx hy dX5_lineWithGreatestError_47 hl (k := 3) rfl (nI_add (i) 1) (by decide) rfl (fun ls hl => ?_)
            refine lv_goto (tgt := 11) hx hy dX5_lineWithGreatestError_50 (by decide) ?_
            exact ih_11 (i + 1) (by omega) (by omega) _ _ _ hI (lv_sub hl [0, 1, 2, 4] rfl)
  exact lp6 (X.1.1 + 1) 0 (by omega) (by omega) _ _ _ hI (lv_sub hl [0, 2, 1, 3] rfl)
set_option maxHeartbeats 400000 in
set_option maxRecDepth 100000 in
theorem kX5_errorAt (l : Launch) (E : EV) (u : SS) {X : XS} (hC : RepC u.1 X) (hX : XOk X) (x y : Int32) : CT l yX5_errorAt cX5_errorAt 3 (some .int) (Rm 6 143) [.ref (eA E 0), .int (x), .int (y)] E u (Q_i E (fun r v => r = (a_errorAt X x y).1 ∧ RepC v.1 (a_errorAt X x y).2 ∧ SameM u.1 v.1) (fun (v : SS) => v)) := by
  refine mstart RX5 (by decide +kernel) rfl (Nat.le_of_ble_eq_true rfl) ?_
  intro p e s m args below meth co ls Q hQ F hI hl
  have hx := F.1
  have hy := F.2.1
  have hl : lv_has ls 3 [(0, .ref (eA E 0)), (1, .int (x)), (2, .int (y))] := hl
  have hC2 := hC
  obtain ⟨hB, ⟨o, hH⟩, hS, hT⟩ := hC2
  have hn16 := hX.1.1
  have hl1 := hX.1.2.1
  have hl2 := hX.1.2.2.1
  have hh4 := hX.2.1.1
  have ht80 := hT.2.1
  refine lv_aload_n hx hy dX5_errorAt_0 rfl (lv_at hl 0 rfl) ?_
  refine gX5_bench F hI L_X5_10 dX5_errorAt_1 ?_
  refine lv_iload_n hx hy dX5_errorAt_4 rfl (lv_at hl 1 rfl) ?_
  refine zI hI (xV F hI hl (kX0_has l E (u) (b := 0) (n := X.1.1) (by decide) hB.2.1 (by omega) x) M_X5_63 (rX0 F hI (b := 0) (by decide)) rfl ⟨Nat.le_of_ble_eq_true rfl, Nat.le_of_ble_eq_true rfl⟩ ⟨Nat.zero_le _, Nat.zero_le _⟩ rfl (Nat.le_of_ble_eq_true rfl) dX5_errorAt_5) (fun r2 v3 H locs hI hp1 => ?_)
  rcases ixO_cases X.1.1 x (by omega) with hxx | ⟨jx, hljx, rfl, hxx⟩
  · have hp1 : r2 = 0 := hp1.trans (by rw [hxx]; rfl)
    subst hp1
    refine lv_if_ne (tgt := 14) hx hy dX5_errorAt_8 (by decide) (fun q => absurd q (by decide)) (fun _ => ?_)
    refine zc F K_X5_67 dX5_errorAt_11 ?_
    exact rI hQ F (v := (u.1, u.2)) hI dX5_errorAt_13 (by rw [a_errorAt, withL_n hxx]; exact ⟨rfl, hC, SameM.rf _⟩)
  · have hp1 : r2 = 1 := hp1.trans (by rw [hxx]; rfl)
    subst hp1
    have hokjx := hX.1.2.2.2 jx hljx
    have hk6jx := hokjx.1
    have hB9jx := hokjx.2.2.2.2.2.2.1
    have hC9jx := hokjx.2.2.2.2.2.2.2
    refine lv_if_ne (tgt := 14) hx hy dX5_errorAt_8 (by decide) (fun _ => ?_) (fun q => absurd q (by decide))
    refine lv_iload_n hx hy dX5_errorAt_14 rfl (lv_at hl 2 rfl) ?_
    refine lv_iconst (v := nI 1) hx hy dX5_errorAt_15 (by decide) ?_
    refine lv_sipush (v := nI 1000) hx hy dX5_errorAt_16 (by decide) ?_
    refine zI hI (xS F hI hl (kX5_isWithin l E (u) 1 1000 y) M_X5_68 rfl ⟨Nat.le_of_ble_eq_true rfl, Nat.le_of_ble_eq_true rfl⟩ ⟨Nat.zero_le _, Nat.zero_le _⟩ rfl (Nat.le_of_ble_eq_true rfl) dX5_errorAt_19) (fun r5 v6 H locs hI hp4 => ?_)
    rcases rgO_cases 1 1000 y (by decide) (by decide) with hxy | ⟨jy, hmjy, hljy, rfl, hxy⟩
    · have hp4 : r5 = 0 := hp4.trans (by rw [hxy]; rfl)
      subst hp4
      refine lv_if_ne (tgt := 28) hx hy dX5_errorAt_22 (by decide) (fun q => absurd q (by decide)) (fun _ => ?_)
      refine zc F K_X5_58 dX5_errorAt_25 ?_
      exact rI hQ F (v := (u.1, u.2)) hI dX5_errorAt_27 (by rw [a_errorAt, withL_s hxx, withR_n hxy]; exact ⟨rfl, hC, SameM.rf _⟩)
    · have hp4 : r5 = 1 := hp4.trans (by rw [hxy]; rfl)
      subst hp4
      refine lv_if_ne (tgt := 28) hx hy dX5_errorAt_22 (by decide) (fun _ => ?_) (fun q => absurd q (by decide))
      refine lv_aload_n hx hy dX5_errorAt_28 rfl (lv_at hl 0 rfl) ?_
      refine lv_iload_n hx hy dX5_errorAt_29 rfl (lv_at hl 1 rfl) ?_
      refine lv_iload_n hx hy dX5_errorAt_30 rfl (lv_at hl 2 rfl) ?_
      refine zI hI (xV F hI hl (kX5_errorOver l E (u) hC hX jx (by omega) jy (by omega) (by omega)) M_X5_140 (rX5 F hI) rfl ⟨Nat.le_of_ble_eq_true rfl, Nat.le_of_ble_eq_true rfl⟩ ⟨Nat.zero_le _, Nat.zero_le _⟩ rfl (Nat.le_of_ble_eq_true rfl) dX5_errorAt_31) (fun r8 v9 H locs hI hp7 => ?_)
      have hpr := hp7.1
      have hps := hp7.2
      have hsc10 : Scr u.1 v9.1 := (Scr.rf _).tr hps
      have hCs11 := hsc10.rep hC
      have hBhCs11 : RepB 0 v9.1 X.1 := hCs11.1
      refine tI (show _ = nI (errN X.1.2.2 jx jy) from hpr) ?_
      exact rI hQ F (v := (v9.1, v9.2)) hI dX5_errorAt_34 (by rw [a_errorAt, withL_s hxx, withR_s hxy]; exact ⟨rfl, hsc10.rep hC, hsc10.m⟩)
set_option maxHeartbeats 400000 in
set_option maxRecDepth 100000 in
theorem kX5_bit (l : Launch) (E : EV) (u : SS) {X : XS} (hC : RepC u.1 X) (hX : XOk X) (x y : Int32) : CT l yX5_bit cX5_bit 3 (some .int) (Rm 5 121) [.ref (eA E 0), .int (x), .int (y)] E u (Q_i E (fun r v => r = (a_bit X x y).1 ∧ RepC v.1 (a_bit X x y).2 ∧ SameM u.1 v.1) (fun (v : SS) => v)) := by
  refine mstart RX5 (by decide +kernel) rfl (Nat.le_of_ble_eq_true rfl) ?_
  intro p e s m args below meth co ls Q hQ F hI hl
  have hx := F.1
  have hy := F.2.1
  have hl : lv_has ls 3 [(0, .ref (eA E 0)), (1, .int (x)), (2, .int (y))] := hl
  have hC2 := hC
  obtain ⟨hB, ⟨o, hH⟩, hS, hT⟩ := hC2
  have hn16 := hX.1.1
  have hl1 := hX.1.2.1
  have hl2 := hX.1.2.2.1
  have hh4 := hX.2.1.1
  have ht80 := hT.2.1
  refine lv_aload_n hx hy dX5_bit_0 rfl (lv_at hl 0 rfl) ?_
  refine gX5_bench F hI L_X5_10 dX5_bit_1 ?_
  refine lv_iload_n hx hy dX5_bit_4 rfl (lv_at hl 1 rfl) ?_
  refine zI hI (xV F hI hl (kX0_has l E (u) (b := 0) (n := X.1.1) (by decide) hB.2.1 (by omega) x) M_X5_63 (rX0 F hI (b := 0) (by decide)) rfl ⟨Nat.le_of_ble_eq_true rfl, Nat.le_of_ble_eq_true rfl⟩ ⟨Nat.zero_le _, Nat.zero_le _⟩ rfl (Nat.le_of_ble_eq_true rfl) dX5_bit_5) (fun r2 v3 H locs hI hp1 => ?_)
  rcases ixO_cases X.1.1 x (by omega) with hxx | ⟨jx, hljx, rfl, hxx⟩
  · have hp1 : r2 = 0 := hp1.trans (by rw [hxx]; rfl)
    subst hp1
    refine lv_if_ne (tgt := 14) hx hy dX5_bit_8 (by decide) (fun q => absurd q (by decide)) (fun _ => ?_)
    refine zc F K_X5_67 dX5_bit_11 ?_
    exact rI hQ F (v := (u.1, u.2)) hI dX5_bit_13 (by rw [a_bit, withL_n hxx]; exact ⟨rfl, hC, SameM.rf _⟩)
  · have hp1 : r2 = 1 := hp1.trans (by rw [hxx]; rfl)
    subst hp1
    have hokjx := hX.1.2.2.2 jx hljx
    have hk6jx := hokjx.1
    have hB9jx := hokjx.2.2.2.2.2.2.1
    have hC9jx := hokjx.2.2.2.2.2.2.2
    refine lv_if_ne (tgt := 14) hx hy dX5_bit_8 (by decide) (fun _ => ?_) (fun q => absurd q (by decide))
    refine lv_iload_n hx hy dX5_bit_14 rfl (lv_at hl 2 rfl) ?_
    refine lv_iconst (v := nI 0) hx hy dX5_bit_15 (by decide) ?_
    refine lv_sipush (v := nI 999) hx hy dX5_bit_16 (by decide) ?_
    refine zI hI (xS F hI hl (kX5_isWithin l E (u) 0 999 y) M_X5_68 rfl ⟨Nat.le_of_ble_eq_true rfl, Nat.le_of_ble_eq_true rfl⟩ ⟨Nat.zero_le _, Nat.zero_le _⟩ rfl (Nat.le_of_ble_eq_true rfl) dX5_bit_19) (fun r5 v6 H locs hI hp4 => ?_)
    rcases rgO_cases 0 999 y (by decide) (by decide) with hxy | ⟨jy, hmjy, hljy, rfl, hxy⟩
    · have hp4 : r5 = 0 := hp4.trans (by rw [hxy]; rfl)
      subst hp4
      refine lv_if_ne (tgt := 28) hx hy dX5_bit_22 (by decide) (fun q => absurd q (by decide)) (fun _ => ?_)
      refine zc F K_X5_58 dX5_bit_25 ?_
      exact rI hQ F (v := (u.1, u.2)) hI dX5_bit_27 (by rw [a_bit, withL_s hxx, withR_n hxy]; exact ⟨rfl, hC, SameM.rf _⟩)
    · have hp4 : r5 = 1 := hp4.trans (by rw [hxy]; rfl)
      subst hp4
      refine lv_if_ne (tgt := 28) hx hy dX5_bit_22 (by decide) (fun _ => ?_) (fun q => absurd q (by decide))
      refine lv_aload_n hx hy dX5_bit_28 rfl (lv_at hl 0 rfl) ?_
      refine gX5_streams F hI L_X5_50 dX5_bit_29 ?_
      refine lv_aload_n hx hy dX5_bit_32 rfl (lv_at hl 0 rfl) ?_
      refine gX5_bench F hI L_X5_10 dX5_bit_33 ?_
      refine lv_iload_n hx hy dX5_bit_36 rfl (lv_at hl 1 rfl) ?_
      refine lv_iload_n hx hy dX5_bit_37 rfl (lv_at hl 2 rfl) ?_
      refine lv_iconst (v := nI 1) hx hy dX5_bit_38 (by decide) ?_
      refine lv_iadd hx hy dX5_bit_39 ?_
      refine tI (nI_add (jy) (1)) ?_
      refine zV hI (xV F hI hl (kX4_fill l E (u) (b := 0) (n := X.1.1) (f := X.1.2.2) (by decide) hB.2 hn16 hX.1.2.2.2 (nI jx) (jx + 1) (jy + 1) (((jy + 1) + 64 - 1) / 64) (la_j _) (by omega) (by omega) rfl) M_X5_149 (rX4 F hI) rfl ⟨Nat.le_of_ble_eq_true rfl, Nat.le_of_ble_eq_true rfl⟩ ⟨Nat.zero_le _, Nat.zero_le _⟩ rfl (Nat.le_of_ble_eq_true rfl) dX5_bit_40) (fun v9 H locs hI hp7 => ?_)
      refine lv_aload_n hx hy dX5_bit_43 rfl (lv_at hl 0 rfl) ?_
      refine gX5_streams F hI L_X5_50 dX5_bit_44 ?_
      refine lv_iload_n hx hy dX5_bit_47 rfl (lv_at hl 1 rfl) ?_
      refine lv_iload_n hx hy dX5_bit_48 rfl (lv_at hl 2 rfl) ?_
      refine zI hI (xV F hI hl (kX4_bitAt l E ((u.1, v9)) jx jy (by omega) (by omega)) M_X5_153 (rX4 F hI) rfl ⟨Nat.le_of_ble_eq_true rfl, Nat.le_of_ble_eq_true rfl⟩ ⟨Nat.zero_le _, Nat.zero_le _⟩ rfl (Nat.le_of_ble_eq_true rfl) dX5_bit_49) (fun r11 v12 H locs hI hp10 => ?_)
      subst hp10
      refine tI (show _ = nI (bN (gb v9 jx jy)) from rfl) ?_
      exact rI hQ F (v := (u.1, v9)) hI dX5_bit_52 (by rw [a_bit, withL_s hxx, withR_s hxy]; exact ⟨congrArg (fun b9 => nI (bN b9)) (rowG_gb (hp7 jx (by omega)) (by omega)), hC, SameM.rf _⟩)
set_option maxHeartbeats 400000 in
set_option maxRecDepth 100000 in
theorem kX5_settles (l : Launch) (E : EV) (u : SS) {X : XS} (hC : RepC u.1 X) (hX : XOk X) (x y : Int32) : CT l yX5_settles cX5_settles 4 (some .int) (Rm 6 146) [.ref (eA E 0), .int (x), .int (y)] E u (Q_i E (fun r v => r = (a_settles X x y).1 ∧ RepC v.1 (a_settles X x y).2 ∧ SameM u.1 v.1) (fun (v : SS) => v)) := by
  refine mstart RX5 (by decide +kernel) rfl (Nat.le_of_ble_eq_true rfl) ?_
  intro p e s m args below meth co ls Q hQ F hI hl
  have hx := F.1
  have hy := F.2.1
  have hl : lv_has ls 4 [(0, .ref (eA E 0)), (1, .int (x)), (2, .int (y))] := hl
  have hC2 := hC
  obtain ⟨hB, ⟨o, hH⟩, hS, hT⟩ := hC2
  have hn16 := hX.1.1
  have hl1 := hX.1.2.1
  have hl2 := hX.1.2.2.1
  have hh4 := hX.2.1.1
  have ht80 := hT.2.1
  refine lv_aload_n hx hy dX5_settles_0 rfl (lv_at hl 0 rfl) ?_
  refine gX5_bench F hI L_X5_10 dX5_settles_1 ?_
  refine lv_iload_n hx hy dX5_settles_4 rfl (lv_at hl 1 rfl) ?_
  refine zI hI (xV F hI hl (kX0_has l E (u) (b := 0) (n := X.1.1) (by decide) hB.2.1 (by omega) x) M_X5_63 (rX0 F hI (b := 0) (by decide)) rfl ⟨Nat.le_of_ble_eq_true rfl, Nat.le_of_ble_eq_true rfl⟩ ⟨Nat.zero_le _, Nat.zero_le _⟩ rfl (Nat.le_of_ble_eq_true rfl) dX5_settles_5) (fun r2 v3 H locs hI hp1 => ?_)
  rcases ixO_cases X.1.1 x (by omega) with hxx | ⟨jx, hljx, rfl, hxx⟩
  · have hp1 : r2 = 0 := hp1.trans (by rw [hxx]; rfl)
    subst hp1
    refine lv_if_ne (tgt := 14) hx hy dX5_settles_8 (by decide) (fun q => absurd q (by decide)) (fun _ => ?_)
    refine zc F K_X5_67 dX5_settles_11 ?_
    exact rI hQ F (v := (u.1, u.2)) hI dX5_settles_13 (by rw [a_settles, withL_n hxx]; exact ⟨rfl, hC, SameM.rf _⟩)
  · have hp1 : r2 = 1 := hp1.trans (by rw [hxx]; rfl)
    subst hp1
    have hokjx := hX.1.2.2.2 jx hljx
    have hk6jx := hokjx.1
    have hB9jx := hokjx.2.2.2.2.2.2.1
    have hC9jx := hokjx.2.2.2.2.2.2.2
    refine lv_if_ne (tgt := 14) hx hy dX5_settles_8 (by decide) (fun _ => ?_) (fun q => absurd q (by decide))
    refine lv_iload_n hx hy dX5_settles_14 rfl (lv_at hl 2 rfl) ?_
    refine lv_iconst (v := nI 0) hx hy dX5_settles_15 (by decide) ?_
    refine zc F K_X5_170 dX5_settles_16 ?_
    refine tI (show _ = nI 65536 from rfl) ?_
    refine zI hI (xS F hI hl (kX5_isWithin l E (u) 0 65536 y) M_X5_68 rfl ⟨Nat.le_of_ble_eq_true rfl, Nat.le_of_ble_eq_true rfl⟩ ⟨Nat.zero_le _, Nat.zero_le _⟩ rfl (Nat.le_of_ble_eq_true rfl) dX5_settles_18) (fun r5 v6 H locs hI hp4 => ?_)
    rcases rgO_cases 0 65536 y (by decide) (by decide) with hxy | ⟨jy, hmjy, hljy, rfl, hxy⟩
    · have hp4 : r5 = 0 := hp4.trans (by rw [hxy]; rfl)
      subst hp4
      refine lv_if_ne (tgt := 27) hx hy dX5_settles_21 (by decide) (fun q => absurd q (by decide)) (fun _ => ?_)
      refine zc F K_X5_58 dX5_settles_24 ?_
      exact rI hQ F (v := (u.1, u.2)) hI dX5_settles_26 (by rw [a_settles, withL_s hxx, withR_n hxy]; exact ⟨rfl, hC, SameM.rf _⟩)
    · have hp4 : r5 = 1 := hp4.trans (by rw [hxy]; rfl)
      subst hp4
      refine lv_if_ne (tgt := 27) hx hy dX5_settles_21 (by decide) (fun _ => ?_) (fun q => absurd q (by decide))
      refine lv_aload_n hx hy dX5_settles_27 rfl (lv_at hl 0 rfl) ?_
      refine lv_iload_n hx hy dX5_settles_28 rfl (lv_at hl 1 rfl) ?_
      refine lv_iload_n hx hy dX5_settles_29 rfl (lv_at hl 2 rfl) ?_
      refine zI hI (xV F hI hl (kX5_lastLengthBeyond l E (u) hC hX jx (by omega) jy (by omega)) M_X5_171 (rX5 F hI) rfl ⟨Nat.le_of_ble_eq_true rfl, Nat.le_of_ble_eq_true rfl⟩ ⟨Nat.zero_le _, Nat.zero_le _⟩ rfl (Nat.le_of_ble_eq_true rfl) dX5_settles_30) (fun r8 v9 H locs hI hp7 => ?_)
      have hpr := hp7.1
      have hps := hp7.2
      have hsc10 : Scr u.1 v9.1 := (Scr.rf _).tr hps
      have hCs11 := hsc10.rep hC
      have hBhCs11 : RepB 0 v9.1 X.1 := hCs11.1
      refine tI (show _ = nI (lastF X.1.2.2 jx jy 1000) from hpr) ?_
      refine lv_istore_n (lv' := [(3, .int (nI (lastF X.1.2.2 jx jy 1000))), (0, .ref (eA E 0)), (1, .int (nI jx)), (2, .int (nI jy))]) hx hy dX5_settles_33 rfl hl (by decide) rfl (fun ls hl => ?_)
      refine lv_iload_n hx hy dX5_settles_34 rfl (lv_at hl 0 rfl) ?_
      refine lv_sipush (v := nI 1000) hx hy dX5_settles_35 (by decide) ?_
      refine lv_icmp_ne (tgt := 46) hx hy dX5_settles_38 (by decide) (fun h12 => ?_) (fun h12 => ?_)
      · have h12 : lastF X.1.2.2 jx jy 1000 ≠ 1000 := fun q9 => h12 ((nI_eq (a := lastF X.1.2.2 jx jy 1000) (b := 1000) (by have := lastF_le X.1.2.2 jx jy 1000; omega) (by omega)).mpr q9)
        refine lv_iload_n hx hy dX5_settles_46 rfl (lv_at hl 0 rfl) ?_
        refine lv_iconst (v := nI 1) hx hy dX5_settles_47 (by decide) ?_
        refine lv_iadd hx hy dX5_settles_48 ?_
        refine tI (nI_add (lastF X.1.2.2 jx jy 1000) (1)) ?_
        exact rI hQ F (v := (v9.1, v9.2)) hI dX5_settles_49 (by rw [a_settles, withL_s hxx, withR_s hxy]; exact ⟨(if_neg h12).symm, hsc10.rep hC, hsc10.m⟩)
      · have h12 : lastF X.1.2.2 jx jy 1000 = 1000 := (nI_eq (a := lastF X.1.2.2 jx jy 1000) (b := 1000) (by have := lastF_le X.1.2.2 jx jy 1000; omega) (by omega)).mp h12
        refine zc F K_X5_81 dX5_settles_41 ?_
        refine lv_goto (tgt := 49) hx hy dX5_settles_43 (by decide) ?_
        exact rI hQ F (v := (v9.1, v9.2)) hI dX5_settles_49 (by rw [a_settles, withL_s hxx, withR_s hxy]; exact ⟨(if_pos h12).symm, hsc10.rep hC, hsc10.m⟩)
set_option maxHeartbeats 400000 in
set_option maxRecDepth 100000 in
theorem kX5_overlap (l : Launch) (E : EV) (u : SS) {X : XS} (hC : RepC u.1 X) (hX : XOk X) (x y : Int32) : CT l yX5_overlap cX5_overlap 9 (some .int) (Rm 5 121) [.ref (eA E 0), .int (x), .int (y)] E u (Q_i E (fun r v => r = (a_overlap X x y).1 ∧ RepC v.1 (a_overlap X x y).2 ∧ SameM u.1 v.1) (fun (v : SS) => v)) := by
  refine mstart RX5 (by decide +kernel) rfl (Nat.le_of_ble_eq_true rfl) ?_
  intro p e s m args below meth co ls Q hQ F hI hl
  have hx := F.1
  have hy := F.2.1
  have hl : lv_has ls 9 [(0, .ref (eA E 0)), (1, .int (x)), (2, .int (y))] := hl
  have hC2 := hC
  obtain ⟨hB, ⟨o, hH⟩, hS, hT⟩ := hC2
  have hn16 := hX.1.1
  have hl1 := hX.1.2.1
  have hl2 := hX.1.2.2.1
  have hh4 := hX.2.1.1
  have ht80 := hT.2.1
  refine lv_aload_n hx hy dX5_overlap_0 rfl (lv_at hl 0 rfl) ?_
  refine gX5_bench F hI L_X5_10 dX5_overlap_1 ?_
  refine lv_iload_n hx hy dX5_overlap_4 rfl (lv_at hl 1 rfl) ?_
  refine zI hI (xV F hI hl (kX0_has l E (u) (b := 0) (n := X.1.1) (by decide) hB.2.1 (by omega) x) M_X5_63 (rX0 F hI (b := 0) (by decide)) rfl ⟨Nat.le_of_ble_eq_true rfl, Nat.le_of_ble_eq_true rfl⟩ ⟨Nat.zero_le _, Nat.zero_le _⟩ rfl (Nat.le_of_ble_eq_true rfl) dX5_overlap_5) (fun r2 v3 H locs hI hp1 => ?_)
  rcases ixO_cases X.1.1 x (by omega) with hxx | ⟨jx, hljx, rfl, hxx⟩
  · have hp1 : r2 = 0 := hp1.trans (by rw [hxx]; rfl)
    subst hp1
    refine lv_if_eq (tgt := 22) hx hy dX5_overlap_8 (by decide) (fun _ => ?_) (fun q => absurd q (by decide))
    refine zc F K_X5_67 dX5_overlap_22 ?_
    exact rI hQ F (v := (u.1, u.2)) hI dX5_overlap_24 (by rw [a_overlap, withL_n hxx]; exact ⟨rfl, hC, SameM.rf _⟩)
  · have hp1 : r2 = 1 := hp1.trans (by rw [hxx]; rfl)
    subst hp1
    have hokjx := hX.1.2.2.2 jx hljx
    have hk6jx := hokjx.1
    have hB9jx := hokjx.2.2.2.2.2.2.1
    have hC9jx := hokjx.2.2.2.2.2.2.2
    refine lv_if_eq (tgt := 22) hx hy dX5_overlap_8 (by decide) (fun q => absurd q (by decide)) (fun _ => ?_)
    refine lv_aload_n hx hy dX5_overlap_11 rfl (lv_at hl 0 rfl) ?_
    refine gX5_bench F hI L_X5_10 dX5_overlap_12 ?_
    refine lv_iload_n hx hy dX5_overlap_15 rfl (lv_at hl 2 rfl) ?_
    refine zI hI (xV F hI hl (kX0_has l E (u) (b := 0) (n := X.1.1) (by decide) hB.2.1 (by omega) y) M_X5_63 (rX0 F hI (b := 0) (by decide)) rfl ⟨Nat.le_of_ble_eq_true rfl, Nat.le_of_ble_eq_true rfl⟩ ⟨Nat.zero_le _, Nat.zero_le _⟩ rfl (Nat.le_of_ble_eq_true rfl) dX5_overlap_16) (fun r5 v6 H locs hI hp4 => ?_)
    rcases ixO_cases X.1.1 y (by omega) with hxy | ⟨jy, hljy, rfl, hxy⟩
    · have hp4 : r5 = 0 := hp4.trans (by rw [hxy]; rfl)
      subst hp4
      refine lv_if_ne (tgt := 25) hx hy dX5_overlap_19 (by decide) (fun q => absurd q (by decide)) (fun _ => ?_)
      refine zc F K_X5_67 dX5_overlap_22 ?_
      exact rI hQ F (v := (u.1, u.2)) hI dX5_overlap_24 (by rw [a_overlap, withL_s hxx, withL_n hxy]; exact ⟨rfl, hC, SameM.rf _⟩)
    · have hp4 : r5 = 1 := hp4.trans (by rw [hxy]; rfl)
      subst hp4
      have hokjy := hX.1.2.2.2 jy hljy
      have hk6jy := hokjy.1
      have hB9jy := hokjy.2.2.2.2.2.2.1
      have hC9jy := hokjy.2.2.2.2.2.2.2
      refine lv_if_ne (tgt := 25) hx hy dX5_overlap_19 (by decide) (fun _ => ?_) (fun q => absurd q (by decide))
      refine lv_aload_n hx hy dX5_overlap_25 rfl (lv_at hl 0 rfl) ?_
      refine gX5_bench F hI L_X5_10 dX5_overlap_26 ?_
      refine gX0_length F hI (b := 0) (by decide) L_X5_97 dX5_overlap_29 ?_
      refine tI hB.1 ?_
      refine lv_i2l (v := lN (X.1.2.1)) hx hy dX5_overlap_32 (nI_l (by omega)) ?_
      refine lv_lstore_n (lv' := [(3, .long (lN (X.1.2.1))), (0, .ref (eA E 0)), (1, .int (nI jx)), (2, .int (nI jy))]) hx hy dX5_overlap_33 rfl hl (by decide) rfl (fun ls hl => ?_)
      refine lv_lload_n hx hy dX5_overlap_34 rfl (lv_at hl 0 rfl) ?_
      refine lv_lconst (v := lN 1) hx hy dX5_overlap_35 (by decide) ?_
      refine W.lcmp hx hy dX5_overlap_36 ?_
      refine lv_if_ge (tgt := 42) hx hy dX5_overlap_37 (by decide) (fun h7 => ?_) (fun h7 => ?_)
      · have h7 := (lg_cmp_ge _ _).mp h7
        have h7 : 1 ≤ X.1.2.1 := (lNle (a := 1) (b := X.1.2.1) (by omega) (by omega)).mp h7
        refine lv_aload_n hx hy dX5_overlap_42 rfl (lv_at hl 1 rfl) ?_
        refine gX5_streams F hI L_X5_50 dX5_overlap_43 ?_
        refine lv_aload_n hx hy dX5_overlap_46 rfl (lv_at hl 1 rfl) ?_
        refine gX5_bench F hI L_X5_10 dX5_overlap_47 ?_
        refine lv_iload_n hx hy dX5_overlap_50 rfl (lv_at hl 2 rfl) ?_
        refine lv_iload_n hx hy dX5_overlap_51 rfl (lv_at hl 3 rfl) ?_
        refine zm_max F hl M_X5_156 ⟨Nat.le_of_ble_eq_true rfl, Nat.le_of_ble_eq_true rfl⟩ ⟨Nat.zero_le _, Nat.zero_le _⟩ dX5_overlap_52 ?_
        refine tI (mx_nI (a := jx) (b := jy) (by omega) (by omega)) ?_
        refine lv_aload_n hx hy dX5_overlap_55 rfl (lv_at hl 1 rfl) ?_
        refine gX5_bench F hI L_X5_10 dX5_overlap_56 ?_
        refine gX0_length F hI (b := 0) (by decide) L_X5_97 dX5_overlap_59 ?_
        refine tI hB.1 ?_
        refine zV hI (xV F hI hl (kX4_fill l E (u) (b := 0) (n := X.1.1) (f := X.1.2.2) (by decide) hB.2 hn16 hX.1.2.2.2 (nI (max jx jy)) (max jx jy + 1) (X.1.2.1) (((X.1.2.1) + 64 - 1) / 64) (la_j _) (by omega) (by omega) rfl) M_X5_149 (rX4 F hI) rfl ⟨Nat.le_of_ble_eq_true rfl, Nat.le_of_ble_eq_true rfl⟩ ⟨Nat.zero_le _, Nat.zero_le _⟩ rfl (Nat.le_of_ble_eq_true rfl) dX5_overlap_62) (fun v10 H locs hI hp8 => ?_)
        refine lv_aload_n hx hy dX5_overlap_65 rfl (lv_at hl 1 rfl) ?_
        refine gX5_streams F hI L_X5_50 dX5_overlap_66 ?_
        refine lv_iload_n hx hy dX5_overlap_69 rfl (lv_at hl 2 rfl) ?_
        refine lv_iload_n hx hy dX5_overlap_70 rfl (lv_at hl 3 rfl) ?_
        refine lv_aload_n hx hy dX5_overlap_71 rfl (lv_at hl 1 rfl) ?_
        refine gX5_bench F hI L_X5_10 dX5_overlap_72 ?_
        refine gX0_length F hI (b := 0) (by decide) L_X5_97 dX5_overlap_75 ?_
        refine tI hB.1 ?_
        refine zI hI (xV F hI hl (kX4_onesInBoth l E ((u.1, v10)) jx jy (X.1.2.1) (by omega) (by omega) (by omega)) M_X5_161 (rX4 F hI) rfl ⟨Nat.le_of_ble_eq_true rfl, Nat.le_of_ble_eq_true rfl⟩ ⟨Nat.zero_le _, Nat.zero_le _⟩ rfl (Nat.le_of_ble_eq_true rfl) dX5_overlap_78) (fun r12 v13 H locs hI hp11 => ?_)
        subst hp11
        refine tI (show _ = nI (fb_ct (fun t => gb v10 jx t && gb v10 jy t) (X.1.2.1)) from rfl) ?_
        refine tI (congrArg nI (row_both (hp8 jx (by omega)) (hp8 jy (by omega)) (by omega))) ?_
        have hbo : both X.1.2.2 jx jy X.1.2.1 ≤ X.1.2.1 := fb_ct_le _ _
        have hco := cnt_le X.1.2.2 jx X.1.2.1
        have hcp := cnt_le X.1.2.2 jy X.1.2.1
        refine lv_i2l (v := lN (both X.1.2.2 jx jy X.1.2.1)) hx hy dX5_overlap_81 (nI_l (by omega)) ?_
        refine lv_lstore (lv' := [(5, .long (lN (both X.1.2.2 jx jy X.1.2.1))), (3, .long (lN (X.1.2.1))), (0, .ref (eA E 0)), (1, .int (nI jx)), (2, .int (nI jy))]) hx hy dX5_overlap_82 hl (by decide) rfl (fun ls hl => ?_)
        refine lv_aload_n hx hy dX5_overlap_84 rfl (lv_at hl 2 rfl) ?_
        refine gX5_streams F hI L_X5_50 dX5_overlap_85 ?_
        refine lv_iload_n hx hy dX5_overlap_88 rfl (lv_at hl 3 rfl) ?_
        refine lv_aload_n hx hy dX5_overlap_89 rfl (lv_at hl 2 rfl) ?_
        refine gX5_bench F hI L_X5_10 dX5_overlap_90 ?_
        refine gX0_length F hI (b := 0) (by decide) L_X5_97 dX5_overlap_93 ?_
        refine tI hB.1 ?_
        refine zI hI (xV F hI hl (kX4_onesIn l E ((u.1, v10)) jx (X.1.2.1) (by omega) (by omega)) M_X5_165 (rX4 F hI) rfl ⟨Nat.le_of_ble_eq_true rfl, Nat.le_of_ble_eq_true rfl⟩ ⟨Nat.zero_le _, Nat.zero_le _⟩ rfl (Nat.le_of_ble_eq_true rfl) dX5_overlap_96) (fun r15 v16 H locs hI hp14 => ?_)
        subst hp14
        refine tI (show _ = nI (fb_ct (fun t => gb v10 jx t) (X.1.2.1)) from rfl) ?_
        refine tI (congrArg nI (row_cnt (hp8 jx (by omega)) (by omega))) ?_
        refine lv_i2l (v := lN (cnt X.1.2.2 jx X.1.2.1)) hx hy dX5_overlap_99 (nI_l (by omega)) ?_
        refine lv_aload_n hx hy dX5_overlap_100 rfl (lv_at hl 2 rfl) ?_
        refine gX5_streams F hI L_X5_50 dX5_overlap_101 ?_
        refine lv_iload_n hx hy dX5_overlap_104 rfl (lv_at hl 4 rfl) ?_
        refine lv_aload_n hx hy dX5_overlap_105 rfl (lv_at hl 2 rfl) ?_
        refine gX5_bench F hI L_X5_10 dX5_overlap_106 ?_
        refine gX0_length F hI (b := 0) (by decide) L_X5_97 dX5_overlap_109 ?_
        refine tI hB.1 ?_
        refine zI hI (xV F hI hl (kX4_onesIn l E ((u.1, v10)) jy (X.1.2.1) (by omega) (by omega)) M_X5_165 (rX4 F hI) rfl ⟨Nat.le_of_ble_eq_true rfl, Nat.le_of_ble_eq_true rfl⟩ ⟨Nat.zero_le _, Nat.zero_le _⟩ rfl (Nat.le_of_ble_eq_true rfl) dX5_overlap_112) (fun r18 v19 H locs hI hp17 => ?_)
        subst hp17
        refine tI (show _ = nI (fb_ct (fun t => gb v10 jy t) (X.1.2.1)) from rfl) ?_
        refine tI (congrArg nI (row_cnt (hp8 jy (by omega)) (by omega))) ?_
        refine lv_i2l (v := lN (cnt X.1.2.2 jy X.1.2.1)) hx hy dX5_overlap_115 (nI_l (by omega)) ?_
        refine lv_lmul hx hy dX5_overlap_116 ?_
        refine tL (lN_mul (cnt X.1.2.2 jx X.1.2.1) (cnt X.1.2.2 jy X.1.2.1)) ?_
        refine lv_lstore (lv' := [(7, .long (lN ((cnt X.1.2.2 jx X.1.2.1) * (cnt X.1.2.2 jy X.1.2.1)))), (5, .long (lN (both X.1.2.2 jx jy X.1.2.1))), (3, .long (lN (X.1.2.1))), (0, .ref (eA E 0)), (1, .int (nI jx)), (2, .int (nI jy))]) hx hy dX5_overlap_117 hl (by decide) rfl (fun ls hl => ?_)
        refine lv_lload hx hy dX5_overlap_119 (lv_at hl 1 rfl) ?_
        refine lv_lload_n hx hy dX5_overlap_121 rfl (lv_at hl 2 rfl) ?_
        refine lv_lmul hx hy dX5_overlap_122 ?_
        refine tL (lN_mul (both X.1.2.2 jx jy X.1.2.1) (X.1.2.1)) ?_
        refine lv_lload hx hy dX5_overlap_123 (lv_at hl 0 rfl) ?_
        refine lv_lsub hx hy dX5_overlap_125 ?_
        refine zcl F K_X5_168 dX5_overlap_126 ?_
        refine tL (show _ = lN 65536 from rfl) ?_
        refine lv_lmul hx hy dX5_overlap_129 ?_
        refine lv_lload_n hx hy dX5_overlap_130 rfl (lv_at hl 2 rfl) ?_
        refine lv_lload_n hx hy dX5_overlap_131 rfl (lv_at hl 2 rfl) ?_
        refine lv_lmul hx hy dX5_overlap_132 ?_
        refine tL (lN_mul (X.1.2.1) (X.1.2.1)) ?_
        refine lv_ldiv hx hy dX5_overlap_133 (len_ne hl1 hl2) ?_
        refine lv_l2i (v := Int64.toInt32 ((((lN ((both X.1.2.2 jx jy X.1.2.1) * (X.1.2.1))) - (lN ((cnt X.1.2.2 jx X.1.2.1) * (cnt X.1.2.2 jy X.1.2.1)))) * (lN 65536)) / (lN ((X.1.2.1) * (X.1.2.1))))) hx hy dX5_overlap_134 rfl ?_
        exact rI hQ F (v := (u.1, v10)) hI dX5_overlap_135 (by rw [a_overlap, withL_s hxx, withL_s hxy]; exact ⟨rfl, hC, SameM.rf _⟩)
      · have h7 := fun q9 => h7 ((lg_cmp_ge _ _).mpr q9)
        have h7 : ¬ 1 ≤ X.1.2.1 := fun q9 => h7 ((lNle (a := 1) (b := X.1.2.1) (by omega) (by omega)).mpr q9)
        exact absurd (by omega) h7
set_option maxHeartbeats 400000 in
set_option maxRecDepth 100000 in
theorem kX5_unlike (l : Launch) (E : EV) (u : SS) {X : XS} (hC : RepC u.1 X) (hX : XOk X) (x : Int32) : CT l yX5_unlike cX5_unlike 4 (some .int) (Rm 5 121) [.ref (eA E 0), .int (x)] E u (Q_i E (fun r v => r = (a_unlike X x).1 ∧ RepC v.1 (a_unlike X x).2 ∧ SameM u.1 v.1) (fun (v : SS) => v)) := by
  refine mstart RX5 (by decide +kernel) rfl (Nat.le_of_ble_eq_true rfl) ?_
  intro p e s m args below meth co ls Q hQ F hI hl
  have hx := F.1
  have hy := F.2.1
  have hl : lv_has ls 4 [(0, .ref (eA E 0)), (1, .int (x))] := hl
  have hC2 := hC
  obtain ⟨hB, ⟨o, hH⟩, hS, hT⟩ := hC2
  have hn16 := hX.1.1
  have hl1 := hX.1.2.1
  have hl2 := hX.1.2.2.1
  have hh4 := hX.2.1.1
  have ht80 := hT.2.1
  refine lv_aload_n hx hy dX5_unlike_0 rfl (lv_at hl 0 rfl) ?_
  refine gX5_bench F hI L_X5_10 dX5_unlike_1 ?_
  refine lv_iload_n hx hy dX5_unlike_4 rfl (lv_at hl 1 rfl) ?_
  refine zI hI (xV F hI hl (kX0_has l E (u) (b := 0) (n := X.1.1) (by decide) hB.2.1 (by omega) x) M_X5_63 (rX0 F hI (b := 0) (by decide)) rfl ⟨Nat.le_of_ble_eq_true rfl, Nat.le_of_ble_eq_true rfl⟩ ⟨Nat.zero_le _, Nat.zero_le _⟩ rfl (Nat.le_of_ble_eq_true rfl) dX5_unlike_5) (fun r2 v3 H locs hI hp1 => ?_)
  rcases ixO_cases X.1.1 x (by omega) with hxx | ⟨jx, hljx, rfl, hxx⟩
  · have hp1 : r2 = 0 := hp1.trans (by rw [hxx]; rfl)
    subst hp1
    refine lv_if_ne (tgt := 14) hx hy dX5_unlike_8 (by decide) (fun q => absurd q (by decide)) (fun _ => ?_)
    refine zc F K_X5_67 dX5_unlike_11 ?_
    exact rI hQ F (v := (u.1, u.2)) hI dX5_unlike_13 (by rw [a_unlike, withL_n hxx]; exact ⟨rfl, hC, SameM.rf _⟩)
  · have hp1 : r2 = 1 := hp1.trans (by rw [hxx]; rfl)
    subst hp1
    have hokjx := hX.1.2.2.2 jx hljx
    have hk6jx := hokjx.1
    have hB9jx := hokjx.2.2.2.2.2.2.1
    have hC9jx := hokjx.2.2.2.2.2.2.2
    refine lv_if_ne (tgt := 14) hx hy dX5_unlike_8 (by decide) (fun _ => ?_) (fun q => absurd q (by decide))
    refine lv_aload_n hx hy dX5_unlike_14 rfl (lv_at hl 0 rfl) ?_
    refine gX5_streams F hI L_X5_50 dX5_unlike_15 ?_
    refine lv_aload_n hx hy dX5_unlike_18 rfl (lv_at hl 0 rfl) ?_
    refine gX5_bench F hI L_X5_10 dX5_unlike_19 ?_
    refine lv_iload_n hx hy dX5_unlike_22 rfl (lv_at hl 1 rfl) ?_
    refine lv_sipush (v := nI 510) hx hy dX5_unlike_23 (by decide) ?_
    refine zV hI (xV F hI hl (kX4_fill l E (u) (b := 0) (n := X.1.1) (f := X.1.2.2) (by decide) hB.2 hn16 hX.1.2.2.2 (nI jx) (jx + 1) (510) ((510 + 64 - 1) / 64) (la_j _) (by omega) (by omega) rfl) M_X5_149 (rX4 F hI) rfl ⟨Nat.le_of_ble_eq_true rfl, Nat.le_of_ble_eq_true rfl⟩ ⟨Nat.zero_le _, Nat.zero_le _⟩ rfl (Nat.le_of_ble_eq_true rfl) dX5_unlike_26) (fun v6 H locs hI hp4 => ?_)
    refine lv_iconst (v := nI 0) hx hy dX5_unlike_29 (by decide) ?_
    refine lv_istore_n (lv' := [(2, .int (nI 0)), (0, .ref (eA E 0)), (1, .int (nI jx))]) hx hy dX5_unlike_30 rfl hl (by decide) rfl (fun ls hl => ?_)
    refine lv_bipush (v := nI 60) hx hy dX5_unlike_31 (by decide) ?_
    refine lv_istore_n (lv' := [(3, .int (nI 60)), (2, .int (nI 0)), (0, .ref (eA E 0)), (1, .int (nI jx))]) hx hy dX5_unlike_33 rfl hl (by decide) rfl (fun ls hl => ?_)
    have lp7 : ∀ (fu : Nat) (k : Nat), (k ≤ 195) → (195 - k < fu) →  ∀ (H : Heap) (locs : List Loc) (ls : Array Slot), Iv E s H locs ((u.1, v6)) → lv_has ls 4 [(3, .int (nI (60 + k))), (2, .int (nI (unlF X.1.2.2 jx k))), (0, .ref (eA E 0)), (1, .int (nI jx))] → W p l e (Rm 5 121) s m args below meth co H locs 0 0 Q (F0 m 34 ls []) := by
      intro fu
      induction fu with
      | zero => intro k hi hf; exact absurd hf (Nat.not_lt_zero _)
      | succ fu ih =>
        intro k hi hf H locs ls hI hl
        have ih_34 := ih
        refine lv_iload_n hx hy dX5_unlike_34 rfl (lv_at hl 0 rfl) ?_
        refine lv_sipush (v := nI 255) hx hy dX5_unlike_35 (by decide) ?_
        refine lv_icmp_ge (tgt := 75) hx hy dX5_unlike_38 (by decide) (fun h8 => ?_) (fun h8 => ?_)
        · have h8 : 255 ≤ 60 + k := (nI_leI (a := 255) (b := 60 + k) (by omega) (by omega)).mp h8
          refine lv_iload_n hx hy dX5_unlike_75 rfl (lv_at hl 1 rfl) ?_
          exact rI hQ F (v := (u.1, v6)) hI dX5_unlike_76 (by rw [a_unlike, withL_s hxx]; exact ⟨by rw [show k = 195 from by omega], hC, SameM.rf _⟩)
        · have h8 : 60 + k < 255 := Nat.lt_of_not_le (fun q9 => h8 ((nI_leI (a := 255) (b := 60 + k) (by omega) (by omega)).mpr q9))
          refine lv_aload_n hx hy dX5_unlike_41 rfl (lv_at hl 2 rfl) ?_
          refine gX5_streams F hI L_X5_50 dX5_unlike_42 ?_
          refine lv_iload_n hx hy dX5_unlike_45 rfl (lv_at hl 3 rfl) ?_
          refine lv_iload_n hx hy dX5_unlike_46 rfl (lv_at hl 0 rfl) ?_
          refine zI hI (xV F hI hl (kX4_bitAt l E ((u.1, v6)) jx (60 + k) (by omega) (by omega)) M_X5_153 (rX4 F hI) rfl ⟨Nat.le_of_ble_eq_true rfl, Nat.le_of_ble_eq_true rfl⟩ ⟨Nat.zero_le _, Nat.zero_le _⟩ rfl (Nat.le_of_ble_eq_true rfl) dX5_unlike_47) (fun r10 v11 H locs hI hp9 => ?_)
          subst hp9
          refine tI (show _ = nI (bN (gb v6 jx (60 + k))) from rfl) ?_
          refine lv_aload_n hx hy dX5_unlike_50 rfl (lv_at hl 2 rfl) ?_
          refine gX5_streams F hI L_X5_50 dX5_unlike_51 ?_
          refine lv_iload_n hx hy dX5_unlike_54 rfl (lv_at hl 3 rfl) ?_
          refine lv_iload_n hx hy dX5_unlike_55 rfl (lv_at hl 0 rfl) ?_
          refine lv_sipush (v := nI 255) hx hy dX5_unlike_56 (by decide) ?_
          refine lv_iadd hx hy dX5_unlike_59 ?_
          refine tI (nI_add (60 + k) (255)) ?_
          refine zI hI (xV F hI hl (kX4_bitAt l E ((u.1, v6)) jx (60 + k + 255) (by omega) (by omega)) M_X5_153 (rX4 F hI) rfl ⟨Nat.le_of_ble_eq_true rfl, Nat.le_of_ble_eq_true rfl⟩ ⟨Nat.zero_le _, Nat.zero_le _⟩ rfl (Nat.le_of_ble_eq_true rfl) dX5_unlike_60) (fun r13 v14 H locs hI hp12 => ?_)
          subst hp12
          refine tI (show _ = nI (bN (gb v6 jx (60 + k + 255))) from rfl) ?_
          refine lv_icmp_eq (tgt := 69) hx hy dX5_unlike_63 (by decide) (fun h15 => ?_) (fun h15 => ?_)
          · have h15 : bN (gb v6 jx (60 + k)) = bN (gb v6 jx (60 + k + 255)) := (nI_eq (a := bN (gb v6 jx (60 + k))) (b := bN (gb v6 jx (60 + k + 255))) (by have := bN_le (gb v6 jx (60 + k)); omega) (by have := bN_le (gb v6 jx (60 + k + 255)); omega)).mp h15
            have e7 : unlF X.1.2.2 jx (k + 1) = _ := unl_eq (by rw [rowG_gb (hp4 jx (by omega)) (show 60 + k < _ by omega), rowG_gb (hp4 jx (by omega)) (show 60 + k + 255 < _ by omega)] at h15; exact h15)
            have hl : lv_has ls 4 [(3, .int (nI (60 + k))), (2, .int (nI (unlF X.1.2.2 jx (k + 1)))), (0, .ref (eA E 0)), (1, .int (nI jx))] := by rw [e7]; exact hl
            refine lv_iinc (v := nI (60 + k + 1)) (lv' := [(3, .int (nI (60 + k + 1))), (2, .int (nI (unlF X.1.2.2 jx (k + 1)))), (0, .ref (eA E 0)), (1, .int (nI jx))]) hx hy dX5_unlike_69 hl (k := 0) rfl (nI_add (60 + k) 1) (by decide) rfl (fun ls hl => ?_)
            refine lv_goto (tgt := 34) hx hy dX5_unlike_72 (by decide) ?_
            exact ih_34 (k + 1) (by omega) (by omega) _ _ _ hI (lv_sub hl [0, 1, 2, 3] rfl)
          · have h15 : bN (gb v6 jx (60 + k)) ≠ bN (gb v6 jx (60 + k + 255)) := fun q9 => h15 ((nI_eq (a := bN (gb v6 jx (60 + k))) (b := bN (gb v6 jx (60 + k + 255))) (by have := bN_le (gb v6 jx (60 + k)); omega) (by have := bN_le (gb v6 jx (60 + k + 255)); omega)).mpr q9)
            refine lv_iinc (v := nI (unlF X.1.2.2 jx k + 1)) (lv' := [(2, .int (nI (unlF X.1.2.2 jx k + 1))), (3, .int (nI (60 + k))), (0, .ref (eA E 0)), (1, .int (nI jx))]) hx hy dX5_unlike_66 hl (k := 1) rfl (nI_add (unlF X.1.2.2 jx k) 1) (by decide) rfl (fun ls hl => ?_)
            have e7 : unlF X.1.2.2 jx (k + 1) = _ := unl_ne (by rw [rowG_gb (hp4 jx (by omega)) (show 60 + k < _ by omega), rowG_gb (hp4 jx (by omega)) (show 60 + k + 255 < _ by omega)] at h15; exact h15)
            have hl : lv_has ls 4 [(2, .int (nI (unlF X.1.2.2 jx (k + 1)))), (3, .int (nI (60 + k))), (0, .ref (eA E 0)), (1, .int (nI jx))] := by rw [e7]; exact hl
            refine lv_iinc (v := nI (60 + k + 1)) (lv' := [(3, .int (nI (60 + k + 1))), (2, .int (nI (unlF X.1.2.2 jx (k + 1)))), (0, .ref (eA E 0)), (1, .int (nI jx))]) hx hy dX5_unlike_69 hl (k := 1) rfl (nI_add (60 + k) 1) (by decide) rfl (fun ls hl => ?_)
            refine lv_goto (tgt := 34) hx hy dX5_unlike_72 (by decide) ?_
            exact ih_34 (k + 1) (by omega) (by omega) _ _ _ hI (lv_sub hl [0, 1, 2, 3] rfl)
    exact lp7 196 0 (by omega) (by omega) _ _ _ hI (lv_sub hl [0, 1, 2, 3] rfl)
