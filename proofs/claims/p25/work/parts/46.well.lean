theorem nI_NON {n : Nat} (h : n < 2 ^ 31) : ¬ nI n = (-100000005 : Int32) := fun q => by
  have h9 := congrArg Int32.toInt q
  rw [nT h] at h9
  have e0 : (-100000005 : Int32).toInt = -100000005 := rfl
  omega
theorem nI_NPO {n : Nat} (h : n < 2 ^ 31) : ¬ nI n = (-100000004 : Int32) := fun q => by
  have h9 := congrArg Int32.toInt q
  rw [nT h] at h9
  have e0 : (-100000004 : Int32).toInt = -100000004 := rfl
  omega
theorem nI_nle0 {n : Nat} (h1 : 1 ≤ n) (h : n < 2 ^ 31) : ¬ nI n ≤ 0 := fun q => absurd ((nI_leI (a := n) (b := 0) h (by decide)).mp q) (by omega)
theorem nI_nz2 {n : Nat} (h1 : 1 ≤ n) (h : n < 2 ^ 31) : ¬ nI n = 0 := fun q => absurd ((nI_eq (a := n) (b := 0) h (by decide)).mp q) (by omega)
theorem mx_l {g : Nat → Nat} {k : Nat} (h : g k ≤ mxN g k) : mxN g k = mxN g (k + 1) := (Nat.max_eq_left h).symm
theorem mx_r {g : Nat → Nat} {k : Nat} (h : mxN g k < g k) : g k = mxN g (k + 1) := (Nat.max_eq_right (Nat.le_of_lt h)).symm
set_option maxHeartbeats 400000 in
set_option maxRecDepth 100000 in
theorem kL_isWell_0 (l : Launch) (E : EV) (u : SS) {X : XS} (hC : RepC u.1 X) (hX : XOk X) (h0 : X.1.1 = 0) : CT l yL_isWell cL_isWell 8 (some .boolean) (Rm 8 186) [.ref (eA E 0)] E u (Q_i E (fun r v => r = 1 ∧ RepC v.1 X) (fun (v : SS) => v)) := by
  refine mstart RL (by decide +kernel) rfl (Nat.le_of_ble_eq_true rfl) ?_
  intro p e s m args below meth co ls Q hQ F hI hl
  have hx := F.1
  have hy := F.2.1
  have hl : lv_has ls 8 [(0, .ref (eA E 0))] := hl
  have hn16 := hX.1.1
  have hl1 := hX.1.2.1
  have hl2 := hX.1.2.2.1
  have hok := hX.1.2.2.2
  refine lv_aload_n hx hy dL_isWell_0 rfl (lv_at hl 0 rfl) ?_
  refine lv_iconst (v := nI 0) hx hy dL_isWell_1 (by decide) ?_
  refine zI hI (xV F hI hl (kX5_count l E (u) (X := X) hC hX (nI 0)) M_L_9 (rX5 F hI) rfl ⟨Nat.le_of_ble_eq_true rfl, Nat.le_of_ble_eq_true rfl⟩ ⟨Nat.zero_le _, Nat.zero_le _⟩ rfl (Nat.le_of_ble_eq_true rfl) dL_isWell_2) (fun r2 v3 H locs hI hp1 => ?_)
  obtain ⟨hq4, hC5⟩ := q_count hp1 (by decide)
  refine tI (show _ = nI 0 from hq4.trans (congrArg nI h0)) ?_
  refine lv_istore_n (lv' := [(1, .int (nI 0)), (0, .ref (eA E 0))]) hx hy dL_isWell_5 rfl hl (by decide) rfl (fun ls hl => ?_)
  refine lv_iconst (v := nI 0) hx hy dL_isWell_6 (by decide) ?_
  refine lv_istore_n (lv' := [(2, .int (nI 0)), (1, .int (nI 0)), (0, .ref (eA E 0))]) hx hy dL_isWell_7 rfl hl (by decide) rfl (fun ls hl => ?_)
  refine lv_iconst (v := nI 0) hx hy dL_isWell_8 (by decide) ?_
  refine lv_istore_n (lv' := [(3, .int (nI 0)), (2, .int (nI 0)), (1, .int (nI 0)), (0, .ref (eA E 0))]) hx hy dL_isWell_9 rfl hl (by decide) rfl (fun ls hl => ?_)
  refine lv_iconst (v := nI 0) hx hy dL_isWell_10 (by decide) ?_
  refine lv_istore (lv' := [(4, .int (nI 0)), (3, .int (nI 0)), (2, .int (nI 0)), (1, .int (nI 0)), (0, .ref (eA E 0))]) hx hy dL_isWell_11 hl (by decide) rfl (fun ls hl => ?_)
  refine lv_aload_n hx hy dL_isWell_13 rfl (lv_at hl 4 rfl) ?_
  refine lv_iconst (v := nI 4) hx hy dL_isWell_14 (by decide) ?_
  refine zI hI (xV F hI hl (kX5_count l E (v3) (X := X) hC5 hX (nI 4)) M_L_9 (rX5 F hI) rfl ⟨Nat.le_of_ble_eq_true rfl, Nat.le_of_ble_eq_true rfl⟩ ⟨Nat.zero_le _, Nat.zero_le _⟩ rfl (Nat.le_of_ble_eq_true rfl) dL_isWell_15) (fun r7 v8 H locs hI hp6 => ?_)
  obtain ⟨hq9, hC10⟩ := q_count hp6 (by decide)
  refine tI (show _ = (-100000005) from hq9.trans (show wrI (wrst X.1.2.2 X.1.2.1 X.1.1) = _ from by rw [h0]; rfl)) ?_
  refine lv_istore (lv' := [(5, .int ((-100000005))), (4, .int (nI 0)), (3, .int (nI 0)), (2, .int (nI 0)), (1, .int (nI 0)), (0, .ref (eA E 0))]) hx hy dL_isWell_18 hl (by decide) rfl (fun ls hl => ?_)
  refine lv_iload hx hy dL_isWell_20 (lv_at hl 0 rfl) ?_
  refine zc F K_L_78 dL_isWell_22 ?_
  refine lv_icmp_ne (tgt := 31) hx hy dL_isWell_24 (by decide) (fun q => absurd q (by decide)) (fun _ => ?_)
  refine lv_iconst (v := nI 1) hx hy dL_isWell_27 (by decide) ?_
  refine lv_goto (tgt := 32) hx hy dL_isWell_28 (by decide) ?_
  refine lv_iload_n hx hy dL_isWell_32 rfl (lv_at hl 4 rfl) ?_
  refine lv_if_ne (tgt := 40) hx hy dL_isWell_33 (by decide) (fun q => absurd q (by decide)) (fun _ => ?_)
  refine lv_iconst (v := nI 1) hx hy dL_isWell_36 (by decide) ?_
  refine lv_goto (tgt := 41) hx hy dL_isWell_37 (by decide) ?_
  refine lv_icmp_ne (tgt := 48) hx hy dL_isWell_41 (by decide) (fun q => absurd q (by decide)) (fun _ => ?_)
  refine lv_iconst (v := nI 1) hx hy dL_isWell_44 (by decide) ?_
  refine lv_goto (tgt := 49) hx hy dL_isWell_45 (by decide) ?_
  refine lv_istore (lv' := [(6, .int (nI 1)), (5, .int ((-100000005))), (4, .int (nI 0)), (3, .int (nI 0)), (2, .int (nI 0)), (1, .int (nI 0)), (0, .ref (eA E 0))]) hx hy dL_isWell_49 hl (by decide) rfl (fun ls hl => ?_)
  refine lv_iconst (v := nI 0) hx hy dL_isWell_51 (by decide) ?_
  refine lv_istore (lv' := [(7, .int (nI 0)), (6, .int (nI 1)), (5, .int ((-100000005))), (4, .int (nI 0)), (3, .int (nI 0)), (2, .int (nI 0)), (1, .int (nI 0)), (0, .ref (eA E 0))]) hx hy dL_isWell_52 hl (by decide) rfl (fun ls hl => ?_)
  refine lv_iload hx hy dL_isWell_54 (lv_at hl 0 rfl) ?_
  refine lv_iload_n hx hy dL_isWell_56 rfl (lv_at hl 6 rfl) ?_
  refine lv_icmp_ge (tgt := 180) hx hy dL_isWell_57 (by decide) (fun _ => ?_) (fun q => absurd q (by decide))
  refine lv_iload hx hy dL_isWell_180 (lv_at hl 1 rfl) ?_
  refine lv_if_eq (tgt := 228) hx hy dL_isWell_182 (by decide) (fun q => absurd q (by decide)) (fun _ => ?_)
  refine lv_iload_n hx hy dL_isWell_185 rfl (lv_at hl 5 rfl) ?_
  refine lv_aload_n hx hy dL_isWell_186 rfl (lv_at hl 7 rfl) ?_
  refine lv_iconst (v := nI 3) hx hy dL_isWell_187 (by decide) ?_
  refine zI hI (xV F hI hl (kX5_count l E (v8) (X := X) hC10 hX (nI 3)) M_L_9 (rX5 F hI) rfl ⟨Nat.le_of_ble_eq_true rfl, Nat.le_of_ble_eq_true rfl⟩ ⟨Nat.zero_le _, Nat.zero_le _⟩ rfl (Nat.le_of_ble_eq_true rfl) dL_isWell_188) (fun r12 v13 H locs hI hp11 => ?_)
  obtain ⟨hq14, hC15⟩ := q_count hp11 (by decide)
  refine tI (show _ = nI 0 from hq14.trans (show nI (sumE X.1.2.2 X.1.2.1 X.1.1) = nI 0 from by rw [h0]; rfl)) ?_
  refine lv_icmp_ne (tgt := 228) hx hy dL_isWell_191 (by decide) (fun q => absurd q (by decide)) (fun _ => ?_)
  refine lv_iload_n hx hy dL_isWell_194 rfl (lv_at hl 4 rfl) ?_
  refine lv_aload_n hx hy dL_isWell_195 rfl (lv_at hl 7 rfl) ?_
  refine lv_iconst (v := nI 2) hx hy dL_isWell_196 (by decide) ?_
  refine zI hI (xV F hI hl (kX5_count l E (v13) (X := X) hC15 hX (nI 2)) M_L_9 (rX5 F hI) rfl ⟨Nat.le_of_ble_eq_true rfl, Nat.le_of_ble_eq_true rfl⟩ ⟨Nat.zero_le _, Nat.zero_le _⟩ rfl (Nat.le_of_ble_eq_true rfl) dL_isWell_197) (fun r17 v18 H locs hI hp16 => ?_)
  obtain ⟨hq19, hC20⟩ := q_count hp16 (by decide)
  refine tI (show _ = nI 0 from hq19.trans (show nI (fb_ct (fun j => decide ((X.1.2.2 j).1 = 0)) X.1.1) = nI 0 from by rw [h0]; rfl)) ?_
  refine lv_icmp_ne (tgt := 228) hx hy dL_isWell_200 (by decide) (fun q => absurd q (by decide)) (fun _ => ?_)
  refine lv_iload hx hy dL_isWell_203 (lv_at hl 3 rfl) ?_
  refine lv_aload_n hx hy dL_isWell_205 rfl (lv_at hl 7 rfl) ?_
  refine lv_iconst (v := nI 5) hx hy dL_isWell_206 (by decide) ?_
  refine zI hI (xV F hI hl (kX5_count l E (v18) (X := X) hC20 hX (nI 5)) M_L_9 (rX5 F hI) rfl ⟨Nat.le_of_ble_eq_true rfl, Nat.le_of_ble_eq_true rfl⟩ ⟨Nat.zero_le _, Nat.zero_le _⟩ rfl (Nat.le_of_ble_eq_true rfl) dL_isWell_207) (fun r22 v23 H locs hI hp21 => ?_)
  obtain ⟨hq24, hC25⟩ := q_count hp21 (by decide)
  refine tI (show _ = nI 0 from hq24.trans (show nI (mxN (dp X.1.2.2) X.1.1) = nI 0 from by rw [h0]; rfl)) ?_
  refine lv_icmp_ne (tgt := 228) hx hy dL_isWell_210 (by decide) (fun q => absurd q (by decide)) (fun _ => ?_)
  refine lv_aload_n hx hy dL_isWell_213 rfl (lv_at hl 7 rfl) ?_
  refine lv_iload_n hx hy dL_isWell_214 rfl (lv_at hl 6 rfl) ?_
  refine lv_iconst (v := nI 0) hx hy dL_isWell_215 (by decide) ?_
  refine zI hI (xV F hI hl (kX5_line l E (v23) (X := X) hC25 hX (nI 0) (nI 0)) M_L_36 (rX5 F hI) rfl ⟨Nat.le_of_ble_eq_true rfl, Nat.le_of_ble_eq_true rfl⟩ ⟨Nat.zero_le _, Nat.zero_le _⟩ rfl (Nat.le_of_ble_eq_true rfl) dL_isWell_216) (fun r27 v28 H locs hI hp26 => ?_)
  obtain ⟨hq29, hC30⟩ := u_line hp26 (by omega) (by omega)
  refine tI (show _ = (-100000001) from hq29) ?_
  refine zc F K_L_35 dL_isWell_219 ?_
  refine lv_icmp_ne (tgt := 228) hx hy dL_isWell_221 (by decide) (fun q => absurd q (by decide)) (fun _ => ?_)
  refine lv_iconst (v := nI 1) hx hy dL_isWell_224 (by decide) ?_
  refine lv_goto (tgt := 229) hx hy dL_isWell_225 (by decide) ?_
  exact rZ hQ F (v := v28) rfl hI dL_isWell_229 ⟨rfl, hC30⟩
set_option maxHeartbeats 400000 in
set_option maxRecDepth 100000 in
theorem kL_isWell_1 (l : Launch) (E : EV) (u : SS) {X : XS} (hC : RepC u.1 X) (hX : XOk X) (h1 : 1 ≤ X.1.1) : CT l yL_isWell cL_isWell 8 (some .boolean) (Rm 8 186) [.ref (eA E 0)] E u (Q_i E (fun r v => r = 1 ∧ RepC v.1 X) (fun (v : SS) => v)) := by
  refine mstart RL (by decide +kernel) rfl (Nat.le_of_ble_eq_true rfl) ?_
  intro p e s m args below meth co ls Q hQ F hI hl
  have hx := F.1
  have hy := F.2.1
  have hl : lv_has ls 8 [(0, .ref (eA E 0))] := hl
  have hn16 := hX.1.1
  have hl1 := hX.1.2.1
  have hl2 := hX.1.2.2.1
  have hok := hX.1.2.2.2
  obtain ⟨ww, gg, hw⟩ := wr_some X.1.2.2 X.1.2.1 X.1.1 h1
  obtain ⟨hw1, hw2, hw3, hw4⟩ := wr_spec _ _ _ hw
  have hee : ∀ j, j < X.1.1 → errN X.1.2.2 j X.1.2.1 ≤ 65536 := fun j hj => errN_le (ex_le hok j hj)
  have hmx : ∀ k, k ≤ X.1.1 → mxN (dp X.1.2.2) k ≤ 16 := fun k hk => mxN_le k (fun i hi => Nat.le_trans (dp_le hok i (by omega)) (by omega))
  refine lv_aload_n hx hy dL_isWell_0 rfl (lv_at hl 0 rfl) ?_
  refine lv_iconst (v := nI 0) hx hy dL_isWell_1 (by decide) ?_
  refine zI hI (xV F hI hl (kX5_count l E (u) (X := X) hC hX (nI 0)) M_L_9 (rX5 F hI) rfl ⟨Nat.le_of_ble_eq_true rfl, Nat.le_of_ble_eq_true rfl⟩ ⟨Nat.zero_le _, Nat.zero_le _⟩ rfl (Nat.le_of_ble_eq_true rfl) dL_isWell_2) (fun r2 v3 H locs hI hp1 => ?_)
  obtain ⟨hq4, hC5⟩ := q_count hp1 (by decide)
  refine tI (show _ = nI (X.1.1) from hq4) ?_
  refine lv_istore_n (lv' := [(1, .int (nI (X.1.1))), (0, .ref (eA E 0))]) hx hy dL_isWell_5 rfl hl (by decide) rfl (fun ls hl => ?_)
  refine lv_iconst (v := nI 0) hx hy dL_isWell_6 (by decide) ?_
  refine lv_istore_n (lv' := [(2, .int (nI 0)), (1, .int (nI (X.1.1))), (0, .ref (eA E 0))]) hx hy dL_isWell_7 rfl hl (by decide) rfl (fun ls hl => ?_)
  refine lv_iconst (v := nI 0) hx hy dL_isWell_8 (by decide) ?_
  refine lv_istore_n (lv' := [(3, .int (nI 0)), (2, .int (nI 0)), (1, .int (nI (X.1.1))), (0, .ref (eA E 0))]) hx hy dL_isWell_9 rfl hl (by decide) rfl (fun ls hl => ?_)
  refine lv_iconst (v := nI 0) hx hy dL_isWell_10 (by decide) ?_
  refine lv_istore (lv' := [(4, .int (nI 0)), (3, .int (nI 0)), (2, .int (nI 0)), (1, .int (nI (X.1.1))), (0, .ref (eA E 0))]) hx hy dL_isWell_11 hl (by decide) rfl (fun ls hl => ?_)
  refine lv_aload_n hx hy dL_isWell_13 rfl (lv_at hl 4 rfl) ?_
  refine lv_iconst (v := nI 4) hx hy dL_isWell_14 (by decide) ?_
  refine zI hI (xV F hI hl (kX5_count l E (v3) (X := X) hC5 hX (nI 4)) M_L_9 (rX5 F hI) rfl ⟨Nat.le_of_ble_eq_true rfl, Nat.le_of_ble_eq_true rfl⟩ ⟨Nat.zero_le _, Nat.zero_le _⟩ rfl (Nat.le_of_ble_eq_true rfl) dL_isWell_15) (fun r7 v8 H locs hI hp6 => ?_)
  obtain ⟨hq9, hC10⟩ := q_count hp6 (by decide)
  refine tI (show _ = nI ww from hq9.trans (show wrI (wrst X.1.2.2 X.1.2.1 X.1.1) = nI ww from by rw [hw]; rfl)) ?_
  refine lv_istore (lv' := [(5, .int (nI ww)), (4, .int (nI 0)), (3, .int (nI 0)), (2, .int (nI 0)), (1, .int (nI (X.1.1))), (0, .ref (eA E 0))]) hx hy dL_isWell_18 hl (by decide) rfl (fun ls hl => ?_)
  refine lv_iload hx hy dL_isWell_20 (lv_at hl 0 rfl) ?_
  refine zc F K_L_78 dL_isWell_22 ?_
  refine lv_icmp_ne (tgt := 31) hx hy dL_isWell_24 (by decide) (fun h11 => ?_) (fun q => absurd q (nI_NON (by omega)))
  refine lv_iconst (v := nI 0) hx hy dL_isWell_31 (by decide) ?_
  refine lv_iload_n hx hy dL_isWell_32 rfl (lv_at hl 4 rfl) ?_
  refine lv_if_ne (tgt := 40) hx hy dL_isWell_33 (by decide) (fun h12 => ?_) (fun q => absurd q (nI_nz2 h1 (by omega)))
  refine lv_iconst (v := nI 0) hx hy dL_isWell_40 (by decide) ?_
  refine lv_icmp_ne (tgt := 48) hx hy dL_isWell_41 (by decide) (fun q => absurd q (by decide)) (fun _ => ?_)
  refine lv_iconst (v := nI 1) hx hy dL_isWell_44 (by decide) ?_
  refine lv_goto (tgt := 49) hx hy dL_isWell_45 (by decide) ?_
  refine lv_istore (lv' := [(6, .int (nI 1)), (5, .int (nI ww)), (4, .int (nI 0)), (3, .int (nI 0)), (2, .int (nI 0)), (1, .int (nI (X.1.1))), (0, .ref (eA E 0))]) hx hy dL_isWell_49 hl (by decide) rfl (fun ls hl => ?_)
  refine lv_iconst (v := nI 0) hx hy dL_isWell_51 (by decide) ?_
  refine lv_istore (lv' := [(7, .int (nI 0)), (6, .int (nI 1)), (5, .int (nI ww)), (4, .int (nI 0)), (3, .int (nI 0)), (2, .int (nI 0)), (1, .int (nI (X.1.1))), (0, .ref (eA E 0))]) hx hy dL_isWell_52 hl (by decide) rfl (fun ls hl => ?_)
  have lp13 : ∀ (fu : Nat) (k : Nat) (wv : SS), (k ≤ X.1.1) → (X.1.1 - k < fu) → (RepC wv.1 X) →  ∀ (H : Heap) (locs : List Loc) (ls : Array Slot), Iv E s H locs (wv) → lv_has ls 8 [(7, .int (nI k)), (6, .int (nI 1)), (0, .ref (eA E 0)), (1, .int (nI (X.1.1))), (2, .int (nI (sumE X.1.2.2 X.1.2.1 k))), (3, .int (nI (fb_ct (fun j => decide ((X.1.2.2 j).1 = 0)) k))), (4, .int (nI (mxN (dp X.1.2.2) k))), (5, .int (nI ww))] → W p l e (Rm 8 186) s m args below meth co H locs 0 0 Q (F0 m 54 ls []) := by
    intro fu
    induction fu with
    | zero => intro k wv hk hf hCw; exact absurd hf (Nat.not_lt_zero _)
    | succ fu ih =>
      intro k wv hk hf hCw H locs ls hI hl
      have ih_54 := ih
      refine lv_iload hx hy dL_isWell_54 (lv_at hl 0 rfl) ?_
      refine lv_iload_n hx hy dL_isWell_56 rfl (lv_at hl 3 rfl) ?_
      refine lv_icmp_ge (tgt := 180) hx hy dL_isWell_57 (by decide) (fun h14 => ?_) (fun h14 => ?_)
      · have h14 : X.1.1 ≤ k := (nI_leI (a := X.1.1) (b := k) (by omega) (by omega)).mp h14
        have hkn : k = X.1.1 := by omega
        refine lv_iload hx hy dL_isWell_180 (lv_at hl 1 rfl) ?_
        refine lv_if_eq (tgt := 228) hx hy dL_isWell_182 (by decide) (fun q => absurd q (by decide)) (fun _ => ?_)
        refine lv_iload_n hx hy dL_isWell_185 rfl (lv_at hl 4 rfl) ?_
        refine lv_aload_n hx hy dL_isWell_186 rfl (lv_at hl 2 rfl) ?_
        refine lv_iconst (v := nI 3) hx hy dL_isWell_187 (by decide) ?_
        refine zI hI (xV F hI hl (kX5_count l E (wv) (X := X) hCw hX (nI 3)) M_L_9 (rX5 F hI) rfl ⟨Nat.le_of_ble_eq_true rfl, Nat.le_of_ble_eq_true rfl⟩ ⟨Nat.zero_le _, Nat.zero_le _⟩ rfl (Nat.le_of_ble_eq_true rfl) dL_isWell_188) (fun r16 v17 H locs hI hp15 => ?_)
        obtain ⟨hq18, hC19⟩ := q_count hp15 (by decide)
        refine tI (show _ = nI (sumE X.1.2.2 X.1.2.1 X.1.1) from hq18) ?_
        refine lv_icmp_ne (tgt := 228) hx hy dL_isWell_191 (by decide) (fun q => absurd (congrArg (fun z9 => nI (sumE X.1.2.2 X.1.2.1 z9)) hkn) q) (fun h20 => ?_)
        refine lv_iload_n hx hy dL_isWell_194 rfl (lv_at hl 5 rfl) ?_
        refine lv_aload_n hx hy dL_isWell_195 rfl (lv_at hl 2 rfl) ?_
        refine lv_iconst (v := nI 2) hx hy dL_isWell_196 (by decide) ?_
        refine zI hI (xV F hI hl (kX5_count l E (v17) (X := X) hC19 hX (nI 2)) M_L_9 (rX5 F hI) rfl ⟨Nat.le_of_ble_eq_true rfl, Nat.le_of_ble_eq_true rfl⟩ ⟨Nat.zero_le _, Nat.zero_le _⟩ rfl (Nat.le_of_ble_eq_true rfl) dL_isWell_197) (fun r22 v23 H locs hI hp21 => ?_)
        obtain ⟨hq24, hC25⟩ := q_count hp21 (by decide)
        refine tI (show _ = nI (fb_ct (fun j => decide ((X.1.2.2 j).1 = 0)) X.1.1) from hq24) ?_
        refine lv_icmp_ne (tgt := 228) hx hy dL_isWell_200 (by decide) (fun q => absurd (congrArg (fun z9 => nI (fb_ct (fun j => decide ((X.1.2.2 j).1 = 0)) z9)) hkn) q) (fun h26 => ?_)
        refine lv_iload hx hy dL_isWell_203 (lv_at hl 6 rfl) ?_
        refine lv_aload_n hx hy dL_isWell_205 rfl (lv_at hl 2 rfl) ?_
        refine lv_iconst (v := nI 5) hx hy dL_isWell_206 (by decide) ?_
        refine zI hI (xV F hI hl (kX5_count l E (v23) (X := X) hC25 hX (nI 5)) M_L_9 (rX5 F hI) rfl ⟨Nat.le_of_ble_eq_true rfl, Nat.le_of_ble_eq_true rfl⟩ ⟨Nat.zero_le _, Nat.zero_le _⟩ rfl (Nat.le_of_ble_eq_true rfl) dL_isWell_207) (fun r28 v29 H locs hI hp27 => ?_)
        obtain ⟨hq30, hC31⟩ := q_count hp27 (by decide)
        refine tI (show _ = nI (mxN (dp X.1.2.2) X.1.1) from hq30) ?_
        refine lv_icmp_ne (tgt := 228) hx hy dL_isWell_210 (by decide) (fun q => absurd (congrArg (fun z9 => nI (mxN (dp X.1.2.2) z9)) hkn) q) (fun h32 => ?_)
        refine lv_aload_n hx hy dL_isWell_213 rfl (lv_at hl 2 rfl) ?_
        refine lv_iload_n hx hy dL_isWell_214 rfl (lv_at hl 3 rfl) ?_
        refine lv_iconst (v := nI 0) hx hy dL_isWell_215 (by decide) ?_
        refine zI hI (xV F hI hl (kX5_line l E (v29) (X := X) hC31 hX (nI (X.1.1)) (nI 0)) M_L_36 (rX5 F hI) rfl ⟨Nat.le_of_ble_eq_true rfl, Nat.le_of_ble_eq_true rfl⟩ ⟨Nat.zero_le _, Nat.zero_le _⟩ rfl (Nat.le_of_ble_eq_true rfl) dL_isWell_216) (fun r34 v35 H locs hI hp33 => ?_)
        obtain ⟨hq36, hC37⟩ := u_line hp33 (by omega) (by omega)
        refine tI (show _ = (-100000001) from hq36) ?_
        refine zc F K_L_35 dL_isWell_219 ?_
        refine lv_icmp_ne (tgt := 228) hx hy dL_isWell_221 (by decide) (fun q => absurd q (by decide)) (fun _ => ?_)
        refine lv_iconst (v := nI 1) hx hy dL_isWell_224 (by decide) ?_
        refine lv_goto (tgt := 229) hx hy dL_isWell_225 (by decide) ?_
        exact rZ hQ F (v := v35) rfl hI dL_isWell_229 ⟨rfl, hC37⟩
      · have h14 : k < X.1.1 := Nat.lt_of_not_le (fun q9 => h14 ((nI_leI (a := X.1.1) (b := k) (by omega) (by omega)).mpr q9))
        refine lv_iload hx hy dL_isWell_60 (lv_at hl 1 rfl) ?_
        refine lv_if_eq (tgt := 180) hx hy dL_isWell_62 (by decide) (fun q => absurd q (by decide)) (fun _ => ?_)
        refine lv_iload_n hx hy dL_isWell_65 rfl (lv_at hl 4 rfl) ?_
        refine lv_aload_n hx hy dL_isWell_66 rfl (lv_at hl 2 rfl) ?_
        refine lv_iload hx hy dL_isWell_67 (lv_at hl 0 rfl) ?_
        refine lv_bipush (v := nI 7) hx hy dL_isWell_69 (by decide) ?_
        refine zI hI (xV F hI hl (kX5_line l E (wv) (X := X) hCw hX (nI k) (nI 7)) M_L_36 (rX5 F hI) rfl ⟨Nat.le_of_ble_eq_true rfl, Nat.le_of_ble_eq_true rfl⟩ ⟨Nat.zero_le _, Nat.zero_le _⟩ rfl (Nat.le_of_ble_eq_true rfl) dL_isWell_71) (fun r39 v40 H locs hI hp38 => ?_)
        obtain ⟨hq41, hC42⟩ := q_line hp38 hX (by omega) (by decide)
        refine tI (show _ = nI (errN X.1.2.2 k X.1.2.1) from hq41) ?_
        refine lv_iadd hx hy dL_isWell_74 ?_
        refine tI (nI_add (sumE X.1.2.2 X.1.2.1 k) (errN X.1.2.2 k X.1.2.1)) ?_
        refine lv_istore_n (lv' := [(2, .int (nI (sumE X.1.2.2 X.1.2.1 k + errN X.1.2.2 k X.1.2.1))), (7, .int (nI k)), (6, .int (nI 1)), (0, .ref (eA E 0)), (1, .int (nI (X.1.1))), (3, .int (nI (fb_ct (fun j => decide ((X.1.2.2 j).1 = 0)) k))), (4, .int (nI (mxN (dp X.1.2.2) k))), (5, .int (nI ww))]) hx hy dL_isWell_75 rfl hl (by decide) rfl (fun ls hl => ?_)
        refine lv_iload_n hx hy dL_isWell_76 rfl (lv_at hl 5 rfl) ?_
        refine lv_aload_n hx hy dL_isWell_77 rfl (lv_at hl 3 rfl) ?_
        refine lv_iload hx hy dL_isWell_78 (lv_at hl 1 rfl) ?_
        refine lv_iconst (v := nI 0) hx hy dL_isWell_80 (by decide) ?_
        refine zI hI (xV F hI hl (kX5_line l E (v40) (X := X) hC42 hX (nI k) (nI 0)) M_L_36 (rX5 F hI) rfl ⟨Nat.le_of_ble_eq_true rfl, Nat.le_of_ble_eq_true rfl⟩ ⟨Nat.zero_le _, Nat.zero_le _⟩ rfl (Nat.le_of_ble_eq_true rfl) dL_isWell_81) (fun r44 v45 H locs hI hp43 => ?_)
        obtain ⟨hq46, hC47⟩ := q_line hp43 hX (by omega) (by decide)
        refine tI (show _ = nI ((X.1.2.2 k).1) from hq46) ?_
        suffices k92 : W p l e (Rm 8 186) s m args below meth co H locs 0 0 Q (F0 m 92 ls [.int (nI ((if decide ((X.1.2.2 k).1 = 0) = true then 1 else 0))), .int (nI (fb_ct (fun j => decide ((X.1.2.2 j).1 = 0)) k))]) by
          refine lv_if_ne (tgt := 91) hx hy dL_isWell_84 (by decide) (fun h48 => ?_) (fun h48 => ?_)
          · have h48 : (X.1.2.2 k).1 ≠ 0 := fun q9 => h48 ((nI_eq (a := (X.1.2.2 k).1) (b := 0) (by have := (hok k (by omega)).1; omega) (by omega)).mpr q9)
            refine lv_iconst (v := nI 0) hx hy dL_isWell_91 (by decide) ?_
            refine tI (show nI 0 = nI ((if decide ((X.1.2.2 k).1 = 0) = true then 1 else 0)) from congrArg nI (if_neg (fun q9 => h48 (of_decide_eq_true q9))).symm) ?_
            exact k92
          · have h48 : (X.1.2.2 k).1 = 0 := (nI_eq (a := (X.1.2.2 k).1) (b := 0) (by have := (hok k (by omega)).1; omega) (by omega)).mp h48
            refine lv_iconst (v := nI 1) hx hy dL_isWell_87 (by decide) ?_
            refine lv_goto (tgt := 92) hx hy dL_isWell_88 (by decide) ?_
            refine tI (show nI 1 = nI ((if decide ((X.1.2.2 k).1 = 0) = true then 1 else 0)) from congrArg nI (if_pos (decide_eq_true h48)).symm) ?_
            exact k92
        refine lv_iadd hx hy dL_isWell_92 ?_
        refine tI (nI_add (fb_ct (fun j => decide ((X.1.2.2 j).1 = 0)) k) ((if decide ((X.1.2.2 k).1 = 0) = true then 1 else 0))) ?_
        refine lv_istore_n (lv' := [(3, .int (nI (fb_ct (fun j => decide ((X.1.2.2 j).1 = 0)) k + (if decide ((X.1.2.2 k).1 = 0) = true then 1 else 0)))), (2, .int (nI (sumE X.1.2.2 X.1.2.1 k + errN X.1.2.2 k X.1.2.1))), (7, .int (nI k)), (6, .int (nI 1)), (0, .ref (eA E 0)), (1, .int (nI (X.1.1))), (4, .int (nI (mxN (dp X.1.2.2) k))), (5, .int (nI ww))]) hx hy dL_isWell_93 rfl hl (by decide) rfl (fun ls hl => ?_)
        refine lv_aload_n hx hy dL_isWell_94 rfl (lv_at hl 4 rfl) ?_
        refine lv_iload hx hy dL_isWell_95 (lv_at hl 2 rfl) ?_
        refine lv_bipush (v := nI 8) hx hy dL_isWell_97 (by decide) ?_
        refine zI hI (xV F hI hl (kX5_line l E (v45) (X := X) hC47 hX (nI k) (nI 8)) M_L_36 (rX5 F hI) rfl ⟨Nat.le_of_ble_eq_true rfl, Nat.le_of_ble_eq_true rfl⟩ ⟨Nat.zero_le _, Nat.zero_le _⟩ rfl (Nat.le_of_ble_eq_true rfl) dL_isWell_99) (fun r50 v51 H locs hI hp49 => ?_)
        obtain ⟨hq52, hC53⟩ := q_line hp49 hX (by omega) (by decide)
        refine tI (show _ = nI (dp X.1.2.2 k) from hq52) ?_
        refine lv_iload hx hy dL_isWell_102 (lv_at hl 6 rfl) ?_
        suffices k120 : ∀ (H : Heap) (locs : List Loc) (wv : SS), Iv E s H locs wv → RepC wv.1 X → W p l e (Rm 8 186) s m args below meth co H locs 0 0 Q (F0 m 120 ls [.int (nI (mxN (dp X.1.2.2) (k + 1)))]) by
          refine lv_icmp_le (tgt := 118) hx hy dL_isWell_104 (by decide) (fun h54 => ?_) (fun h54 => ?_)
          · have h54 : dp X.1.2.2 k ≤ mxN (dp X.1.2.2) k := (nI_leI (a := dp X.1.2.2 k) (b := mxN (dp X.1.2.2) k) (by have := dp_le hok k (by omega); omega) (by have := hmx k (by omega); omega)).mp h54
            refine lv_iload hx hy dL_isWell_118 (lv_at hl 6 rfl) ?_
            refine tI (show nI (mxN (dp X.1.2.2) k) = nI (mxN (dp X.1.2.2) (k + 1)) from congrArg nI (mx_l h54)) ?_
            exact k120 H locs v51 hI hC53
          · have h54 : mxN (dp X.1.2.2) k < dp X.1.2.2 k := Nat.lt_of_not_le (fun q9 => h54 ((nI_leI (a := dp X.1.2.2 k) (b := mxN (dp X.1.2.2) k) (by have := dp_le hok k (by omega); omega) (by have := hmx k (by omega); omega)).mpr q9))
            refine lv_aload_n hx hy dL_isWell_107 rfl (lv_at hl 4 rfl) ?_
            refine lv_iload hx hy dL_isWell_108 (lv_at hl 2 rfl) ?_
            refine lv_bipush (v := nI 8) hx hy dL_isWell_110 (by decide) ?_
            refine zI hI (xV F hI hl (kX5_line l E (v51) (X := X) hC53 hX (nI k) (nI 8)) M_L_36 (rX5 F hI) rfl ⟨Nat.le_of_ble_eq_true rfl, Nat.le_of_ble_eq_true rfl⟩ ⟨Nat.zero_le _, Nat.zero_le _⟩ rfl (Nat.le_of_ble_eq_true rfl) dL_isWell_112) (fun r56 v57 H locs hI hp55 => ?_)
            obtain ⟨hq58, hC59⟩ := q_line hp55 hX (by omega) (by decide)
            refine tI (show _ = nI (dp X.1.2.2 k) from hq58) ?_
            refine lv_goto (tgt := 120) hx hy dL_isWell_115 (by decide) ?_
            refine tI (show nI (dp X.1.2.2 k) = nI (mxN (dp X.1.2.2) (k + 1)) from congrArg nI (mx_r h54)) ?_
            exact k120 H locs v57 hI hC59
        intro H locs wv61 hI hw60
        refine lv_istore (lv' := [(4, .int (nI (mxN (dp X.1.2.2) (k + 1)))), (3, .int (nI (fb_ct (fun j => decide ((X.1.2.2 j).1 = 0)) k + (if decide ((X.1.2.2 k).1 = 0) = true then 1 else 0)))), (2, .int (nI (sumE X.1.2.2 X.1.2.1 k + errN X.1.2.2 k X.1.2.1))), (7, .int (nI k)), (6, .int (nI 1)), (0, .ref (eA E 0)), (1, .int (nI (X.1.1))), (5, .int (nI ww))]) hx hy dL_isWell_120 hl (by decide) rfl (fun ls hl => ?_)
        refine lv_aload_n hx hy dL_isWell_122 rfl (lv_at hl 5 rfl) ?_
        refine lv_iload hx hy dL_isWell_123 (lv_at hl 3 rfl) ?_
        refine lv_bipush (v := nI 7) hx hy dL_isWell_125 (by decide) ?_
        refine zI hI (xV F hI hl (kX5_line l E (wv61) (X := X) hw60 hX (nI k) (nI 7)) M_L_36 (rX5 F hI) rfl ⟨Nat.le_of_ble_eq_true rfl, Nat.le_of_ble_eq_true rfl⟩ ⟨Nat.zero_le _, Nat.zero_le _⟩ rfl (Nat.le_of_ble_eq_true rfl) dL_isWell_127) (fun r63 v64 H locs hI hp62 => ?_)
        obtain ⟨hq65, hC66⟩ := q_line hp62 hX (by omega) (by decide)
        refine tI (show _ = nI (errN X.1.2.2 k X.1.2.1) from hq65) ?_
        refine lv_aload_n hx hy dL_isWell_130 rfl (lv_at hl 5 rfl) ?_
        refine lv_iload hx hy dL_isWell_131 (lv_at hl 7 rfl) ?_
        refine lv_bipush (v := nI 7) hx hy dL_isWell_133 (by decide) ?_
        refine zI hI (xV F hI hl (kX5_line l E (v64) (X := X) hC66 hX (nI ww) (nI 7)) M_L_36 (rX5 F hI) rfl ⟨Nat.le_of_ble_eq_true rfl, Nat.le_of_ble_eq_true rfl⟩ ⟨Nat.zero_le _, Nat.zero_le _⟩ rfl (Nat.le_of_ble_eq_true rfl) dL_isWell_135) (fun r68 v69 H locs hI hp67 => ?_)
        obtain ⟨hq70, hC71⟩ := q_line hp67 hX (by omega) (by decide)
        refine tI (show _ = nI (errN X.1.2.2 ww X.1.2.1) from hq70) ?_
        suffices k172 : ∀ (H : Heap) (locs : List Loc) (wv : SS), Iv E s H locs wv → RepC wv.1 X → W p l e (Rm 8 186) s m args below meth co H locs 0 0 Q (F0 m 172 ls [.int (nI 1)]) by
          refine lv_icmp_lt (tgt := 167) hx hy dL_isWell_138 (by decide) (fun h72 => ?_) (fun h72 => ?_)
          · have h72 : errN X.1.2.2 k X.1.2.1 < errN X.1.2.2 ww X.1.2.1 := (nI_ltI (a := errN X.1.2.2 k X.1.2.1) (b := errN X.1.2.2 ww X.1.2.1) (by have := hee k (by omega); omega) (by have := hee ww (by omega); omega)).mp h72
            refine lv_iconst (v := nI 1) hx hy dL_isWell_167 (by decide) ?_
            refine lv_goto (tgt := 172) hx hy dL_isWell_168 (by decide) ?_
            exact k172 H locs v69 hI hC71
          · have h72 : errN X.1.2.2 ww X.1.2.1 ≤ errN X.1.2.2 k X.1.2.1 := Nat.le_of_not_lt (fun q9 => h72 ((nI_ltI (a := errN X.1.2.2 k X.1.2.1) (b := errN X.1.2.2 ww X.1.2.1) (by have := hee k (by omega); omega) (by have := hee ww (by omega); omega)).mpr q9))
            refine lv_aload_n hx hy dL_isWell_141 rfl (lv_at hl 5 rfl) ?_
            refine lv_iload hx hy dL_isWell_142 (lv_at hl 3 rfl) ?_
            refine lv_bipush (v := nI 7) hx hy dL_isWell_144 (by decide) ?_
            refine zI hI (xV F hI hl (kX5_line l E (v69) (X := X) hC71 hX (nI k) (nI 7)) M_L_36 (rX5 F hI) rfl ⟨Nat.le_of_ble_eq_true rfl, Nat.le_of_ble_eq_true rfl⟩ ⟨Nat.zero_le _, Nat.zero_le _⟩ rfl (Nat.le_of_ble_eq_true rfl) dL_isWell_146) (fun r74 v75 H locs hI hp73 => ?_)
            obtain ⟨hq76, hC77⟩ := q_line hp73 hX (by omega) (by decide)
            refine tI (show _ = nI (errN X.1.2.2 k X.1.2.1) from hq76) ?_
            refine lv_aload_n hx hy dL_isWell_149 rfl (lv_at hl 5 rfl) ?_
            refine lv_iload hx hy dL_isWell_150 (lv_at hl 7 rfl) ?_
            refine lv_bipush (v := nI 7) hx hy dL_isWell_152 (by decide) ?_
            refine zI hI (xV F hI hl (kX5_line l E (v75) (X := X) hC77 hX (nI ww) (nI 7)) M_L_36 (rX5 F hI) rfl ⟨Nat.le_of_ble_eq_true rfl, Nat.le_of_ble_eq_true rfl⟩ ⟨Nat.zero_le _, Nat.zero_le _⟩ rfl (Nat.le_of_ble_eq_true rfl) dL_isWell_154) (fun r79 v80 H locs hI hp78 => ?_)
            obtain ⟨hq81, hC82⟩ := q_line hp78 hX (by omega) (by decide)
            refine tI (show _ = nI (errN X.1.2.2 ww X.1.2.1) from hq81) ?_
            refine lv_icmp_ne (tgt := 171) hx hy dL_isWell_157 (by decide) (fun q => absurd (congrArg nI (show errN X.1.2.2 k X.1.2.1 = errN X.1.2.2 ww X.1.2.1 by have := hw3 k (by omega); omega)) q) (fun h83 => ?_)
            refine lv_iload hx hy dL_isWell_160 (lv_at hl 3 rfl) ?_
            refine lv_iload hx hy dL_isWell_162 (lv_at hl 7 rfl) ?_
            refine lv_icmp_lt (tgt := 171) hx hy dL_isWell_164 (by decide) (fun q => absurd q (nI_nltL (Nat.le_of_not_lt (fun q9 => absurd (hw4 k q9) (by omega))) (by omega))) (fun h84 => ?_)
            refine lv_iconst (v := nI 1) hx hy dL_isWell_167 (by decide) ?_
            refine lv_goto (tgt := 172) hx hy dL_isWell_168 (by decide) ?_
            exact k172 H locs v80 hI hC82
        intro H locs wv86 hI hw85
        refine lv_istore (lv' := [(6, .int (nI 1)), (4, .int (nI (mxN (dp X.1.2.2) (k + 1)))), (3, .int (nI (fb_ct (fun j => decide ((X.1.2.2 j).1 = 0)) k + (if decide ((X.1.2.2 k).1 = 0) = true then 1 else 0)))), (2, .int (nI (sumE X.1.2.2 X.1.2.1 k + errN X.1.2.2 k X.1.2.1))), (7, .int (nI k)), (0, .ref (eA E 0)), (1, .int (nI (X.1.1))), (5, .int (nI ww))]) hx hy dL_isWell_172 hl (by decide) rfl (fun ls hl => ?_)
        refine lv_iinc (v := nI (k + 1)) (lv' := [(7, .int (nI (k + 1))), (6, .int (nI 1)), (4, .int (nI (mxN (dp X.1.2.2) (k + 1)))), (3, .int (nI (fb_ct (fun j => decide ((X.1.2.2 j).1 = 0)) k + (if decide ((X.1.2.2 k).1 = 0) = true then 1 else 0)))), (2, .int (nI (sumE X.1.2.2 X.1.2.1 k + errN X.1.2.2 k X.1.2.1))), (0, .ref (eA E 0)), (1, .int (nI (X.1.1))), (5, .int (nI ww))]) hx hy dL_isWell_174 hl (k := 4) rfl (nI_add (k) 1) (by decide) rfl (fun ls hl => ?_)
        refine lv_goto (tgt := 54) hx hy dL_isWell_177 (by decide) ?_
        exact ih_54 (k + 1) wv86 (by omega) (by omega) hw85 _ _ _ hI (lv_sub hl [0, 1, 5, 6, 4, 3, 2, 7] rfl)
  exact lp13 (X.1.1 + 1) 0 v8 (by omega) (by omega) hC10 _ _ _ hI (lv_sub hl [0, 1, 7, 6, 5, 4, 3, 2] rfl)
/-- all kinds -/
theorem kL_isLine (l : Launch) (E : EV) (u : SS) {X : XS} (hC : RepC u.1 X) (hX : XOk X) (jj kk : Nat) (x : Int32) (hj : jj < X.1.1) (hkk : kk < X.1.1) : CT l yL_isLine cL_isLine 16 (some .boolean) (Rm 8 186) [.ref (eA E 0), .int (nI jj), .int (nI kk), .int x] E u (Q_i E (fun r v => r = 1 ∧ RepC v.1 X) (fun (v : SS) => v)) := by
  have h6 := (hX.1.2.2.2 jj hj).1
  rcases (show (X.1.2.2 jj).1 = 0 ∨ (X.1.2.2 jj).1 = 1 ∨ (X.1.2.2 jj).1 = 2 ∨ (X.1.2.2 jj).1 = 3 ∨ (X.1.2.2 jj).1 = 4 ∨ (X.1.2.2 jj).1 = 5 ∨ (X.1.2.2 jj).1 = 6 by omega) with h | h | h | h | h | h | h
  · exact kL_isLine_0 l E u hC hX jj kk x hj hkk h
  · exact kL_isLine_1 l E u hC hX jj kk x hj hkk h
  · exact kL_isLine_2 l E u hC hX jj kk x hj hkk h
  · exact kL_isLine_3 l E u hC hX jj kk x hj hkk h
  · exact kL_isLine_4 l E u hC hX jj kk x hj hkk h
  · exact kL_isLine_5 l E u hC hX jj kk x hj hkk h
  · exact kL_isLine_6 l E u hC hX jj kk x hj hkk h
theorem kL_isWell (l : Launch) (E : EV) (u : SS) {X : XS} (hC : RepC u.1 X) (hX : XOk X) : CT l yL_isWell cL_isWell 8 (some .boolean) (Rm 8 186) [.ref (eA E 0)] E u (Q_i E (fun r v => r = 1 ∧ RepC v.1 X) (fun (v : SS) => v)) := by
  rcases Nat.eq_zero_or_pos X.1.1 with h | h
  · exact kL_isWell_0 l E u hC hX h
  · exact kL_isWell_1 l E u hC hX h
