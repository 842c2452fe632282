set_option maxHeartbeats 400000 in
set_option maxRecDepth 100000 in
theorem kX5_onesOver (l : Launch) (E : EV) (u : SS) {X : XS} (hC : RepC u.1 X) (hX : XOk X) (j : Nat) (hj : j < X.1.1) (tk : Nat) (htk : tk ≤ 1000) : CT l yX5_onesOver cX5_onesOver 3 (some .int) (Rm 5 121) [.ref (eA E 0), .int (nI j), .int (nI tk)] E u (Q_i E (fun r v => r = nI (cnt X.1.2.2 j tk) ∧ Scr u.1 v.1) (fun (v : SS) => v)) := by
  refine mstart RX5 (by decide +kernel) rfl (Nat.le_of_ble_eq_true rfl) ?_
  intro p e s m args below meth co ls Q hQ F hI hl
  have hx := F.1
  have hy := F.2.1
  have hl : lv_has ls 3 [(0, .ref (eA E 0)), (1, .int (nI j)), (2, .int (nI tk))] := hl
  have hC2 := hC
  obtain ⟨hB, ⟨o, hH⟩, hS, hT⟩ := hC2
  have hn16 := hX.1.1
  have hl1 := hX.1.2.1
  have hl2 := hX.1.2.2.1
  have hh4 := hX.2.1.1
  have ht80 := hT.2.1
  refine lv_aload_n hx hy dX5_onesOver_0 rfl (lv_at hl 0 rfl) ?_
  refine gX5_streams F hI L_X5_50 dX5_onesOver_1 ?_
  refine lv_aload_n hx hy dX5_onesOver_4 rfl (lv_at hl 0 rfl) ?_
  refine gX5_bench F hI L_X5_10 dX5_onesOver_5 ?_
  refine lv_iload_n hx hy dX5_onesOver_8 rfl (lv_at hl 1 rfl) ?_
  refine lv_iload_n hx hy dX5_onesOver_9 rfl (lv_at hl 2 rfl) ?_
  refine zV hI (xV F hI hl (kX4_fill l E (u) (b := 0) (n := X.1.1) (f := X.1.2.2) (by decide) hB.2 hn16 hX.1.2.2.2 (nI j) (j + 1) (tk) ((tk + 64 - 1) / 64) (la_j _) (by omega) (by omega) rfl) M_X5_149 (rX4 F hI) rfl ⟨Nat.le_of_ble_eq_true rfl, Nat.le_of_ble_eq_true rfl⟩ ⟨Nat.zero_le _, Nat.zero_le _⟩ rfl (Nat.le_of_ble_eq_true rfl) dX5_onesOver_10) (fun v3 H locs hI hp1 => ?_)
  refine lv_aload_n hx hy dX5_onesOver_13 rfl (lv_at hl 0 rfl) ?_
  refine gX5_streams F hI L_X5_50 dX5_onesOver_14 ?_
  refine lv_iload_n hx hy dX5_onesOver_17 rfl (lv_at hl 1 rfl) ?_
  refine lv_iload_n hx hy dX5_onesOver_18 rfl (lv_at hl 2 rfl) ?_
  refine zI hI (xV F hI hl (kX4_onesIn l E ((u.1, v3)) j tk (by omega) (by omega)) M_X5_165 (rX4 F hI) rfl ⟨Nat.le_of_ble_eq_true rfl, Nat.le_of_ble_eq_true rfl⟩ ⟨Nat.zero_le _, Nat.zero_le _⟩ rfl (Nat.le_of_ble_eq_true rfl) dX5_onesOver_19) (fun r5 v6 H locs hI hp4 => ?_)
  subst hp4
  refine tI (show _ = nI (fb_ct (fun t => gb v3 j t) tk) from rfl) ?_
  exact rI hQ F (v := (u.1, v3)) hI dX5_onesOver_22 ⟨congrArg nI (row_cnt (hp1 j (by omega)) (by omega)), Scr.rf _⟩
set_option maxHeartbeats 400000 in
set_option maxRecDepth 100000 in
theorem kX5_errorOfCount (l : Launch) (E : EV) (u : SS) (j o t k : Nat) (hj : j < 16) (he : u.1 3 j = nI k) (hk : k ≤ 65536) (ho : o ≤ t) (ht : 1 ≤ t) (ht2 : t ≤ 1000) : CT l yX5_errorOfCount cX5_errorOfCount 4 (some .int) (Rm 2 42) [.ref (eA E 0), .int (nI j), .int (nI o), .int (nI t)] E u (Q_i E (fun r _ => r = nI (apt (o * 65536 / t) k)) (fun (_ : Unit) => u)) := by
  refine mstart RX5 (by decide +kernel) rfl (Nat.le_of_ble_eq_true rfl) ?_
  intro p e s m args below meth co ls Q hQ F hI hl
  have hx := F.1
  have hy := F.2.1
  have hl : lv_has ls 4 [(0, .ref (eA E 0)), (1, .int (nI j)), (2, .int (nI o)), (3, .int (nI t))] := hl
  have hsh : o * 65536 / t ≤ 65536 := Nat.div_le_of_le_mul (by omega)
  refine lv_iload_n hx hy dX5_errorOfCount_0 rfl (lv_at hl 2 rfl) ?_
  refine lv_iload_n hx hy dX5_errorOfCount_1 rfl (lv_at hl 3 rfl) ?_
  refine zI hI (xS F hI hl (kX5_shareOf l E (u) o t (by omega) (by omega) (by omega)) M_X5_131 rfl ⟨Nat.le_of_ble_eq_true rfl, Nat.le_of_ble_eq_true rfl⟩ ⟨Nat.zero_le _, Nat.zero_le _⟩ rfl (Nat.le_of_ble_eq_true rfl) dX5_errorOfCount_2) (fun r2 v3 H locs hI hp1 => ?_)
  subst hp1
  refine lv_aload_n hx hy dX5_errorOfCount_5 rfl (lv_at hl 0 rfl) ?_
  refine gX5_figures F hI L_X5_43 dX5_errorOfCount_6 ?_
  refine lv_iload_n hx hy dX5_errorOfCount_9 rfl (lv_at hl 1 rfl) ?_
  refine zI hI (xV F hI hl (kX2_exactShareOf l E (u) (nI j)) M_X5_137 (rX2 F hI) rfl ⟨Nat.le_of_ble_eq_true rfl, Nat.le_of_ble_eq_true rfl⟩ ⟨Nat.zero_le _, Nat.zero_le _⟩ rfl (Nat.le_of_ble_eq_true rfl) dX5_errorOfCount_10) (fun r5 v6 H locs hI hp4 => ?_)
  rw [el_lt (by omega) (by decide)] at hp4
  subst hp4
  refine tI he ?_
  refine lv_isub hx hy dX5_errorOfCount_13 ?_
  refine zm_abs F hl M_X5_200 ⟨Nat.le_of_ble_eq_true rfl, Nat.le_of_ble_eq_true rfl⟩ ⟨Nat.zero_le _, Nat.zero_le _⟩ dX5_errorOfCount_14 ?_
  exact rI hQ F (v := ()) hI dX5_errorOfCount_17 (abs_nI (a := o * 65536 / t) (b := k) (by omega) (by omega))
set_option maxHeartbeats 400000 in
set_option maxRecDepth 100000 in
theorem kX5_errorOfFilled (l : Launch) (E : EV) (u : SS) {f : Nat → Ln} {w : Nat} (j t : Nat) (hj : j < 16) (hrow : RowG u.2 f j w) (hw : t ≤ 64 * w) (he : u.1 3 j = nI (ex f j)) (hk : ex f j ≤ 65536) (ht : 1 ≤ t) (ht2 : t ≤ 1000) : CT l yX5_errorOfFilled cX5_errorOfFilled 3 (some .int) (Rm 3 72) [.ref (eA E 0), .int (nI j), .int (nI t)] E u (Q_i E (fun r _ => r = nI (errN f j t)) (fun (_ : Unit) => u)) := by
  refine mstart RX5 (by decide +kernel) rfl (Nat.le_of_ble_eq_true rfl) ?_
  intro p e s m args below meth co ls Q hQ F hI hl
  have hx := F.1
  have hy := F.2.1
  have hl : lv_has ls 3 [(0, .ref (eA E 0)), (1, .int (nI j)), (2, .int (nI t))] := hl
  refine lv_aload_n hx hy dX5_errorOfFilled_0 rfl (lv_at hl 0 rfl) ?_
  refine lv_iload_n hx hy dX5_errorOfFilled_1 rfl (lv_at hl 1 rfl) ?_
  refine lv_aload_n hx hy dX5_errorOfFilled_2 rfl (lv_at hl 0 rfl) ?_
  refine gX5_streams F hI L_X5_50 dX5_errorOfFilled_3 ?_
  refine lv_iload_n hx hy dX5_errorOfFilled_6 rfl (lv_at hl 1 rfl) ?_
  refine lv_iload_n hx hy dX5_errorOfFilled_7 rfl (lv_at hl 2 rfl) ?_
  refine zI hI (xV F hI hl (kX4_onesIn l E (u) j t (by omega) (by omega)) M_X5_165 (rX4 F hI) rfl ⟨Nat.le_of_ble_eq_true rfl, Nat.le_of_ble_eq_true rfl⟩ ⟨Nat.zero_le _, Nat.zero_le _⟩ rfl (Nat.le_of_ble_eq_true rfl) dX5_errorOfFilled_8) (fun r2 v3 H locs hI hp1 => ?_)
  subst hp1
  refine tI (congrArg nI (row_cnt hrow hw)) ?_
  have hcl := cnt_le f j t
  refine lv_iload_n hx hy dX5_errorOfFilled_11 rfl (lv_at hl 2 rfl) ?_
  refine zI hI (xV F hI hl (kX5_errorOfCount l E (u) j (cnt f j t) t (ex f j) hj he hk hcl ht ht2) M_X5_197 (rX5 F hI) rfl ⟨Nat.le_of_ble_eq_true rfl, Nat.le_of_ble_eq_true rfl⟩ ⟨Nat.zero_le _, Nat.zero_le _⟩ rfl (Nat.le_of_ble_eq_true rfl) dX5_errorOfFilled_12) (fun r5 v6 H locs hI hp4 => ?_)
  subst hp4
  exact rI hQ F (v := ()) hI dX5_errorOfFilled_15 rfl
set_option maxHeartbeats 400000 in
set_option maxRecDepth 100000 in
theorem kX5_errorOver (l : Launch) (E : EV) (u : SS) {X : XS} (hC : RepC u.1 X) (hX : XOk X) (j : Nat) (hj : j < X.1.1) (tk : Nat) (ht1 : 1 ≤ tk) (htk : tk ≤ 1000) : CT l yX5_errorOver cX5_errorOver 3 (some .int) (Rm 5 121) [.ref (eA E 0), .int (nI j), .int (nI tk)] E u (Q_i E (fun r v => r = nI (errN X.1.2.2 j tk) ∧ Scr u.1 v.1) (fun (v : SS) => v)) := by
  refine mstart RX5 (by decide +kernel) rfl (Nat.le_of_ble_eq_true rfl) ?_
  intro p e s m args below meth co ls Q hQ F hI hl
  have hx := F.1
  have hy := F.2.1
  have hl : lv_has ls 3 [(0, .ref (eA E 0)), (1, .int (nI j)), (2, .int (nI tk))] := hl
  have hC2 := hC
  obtain ⟨hB, ⟨o, hH⟩, hS, hT⟩ := hC2
  have hn16 := hX.1.1
  have hl1 := hX.1.2.1
  have hl2 := hX.1.2.2.1
  have hh4 := hX.2.1.1
  have ht80 := hT.2.1
  refine lv_aload_n hx hy dX5_errorOver_0 rfl (lv_at hl 0 rfl) ?_
  refine gX5_figures F hI L_X5_43 dX5_errorOver_1 ?_
  refine lv_aload_n hx hy dX5_errorOver_4 rfl (lv_at hl 0 rfl) ?_
  refine gX5_bench F hI L_X5_10 dX5_errorOver_5 ?_
  refine zV hI (xV F hI hl (kX2_workOut l E (u) (b := 0) (n := X.1.1) (f := X.1.2.2) (by decide) hB.2 hn16 hX.1.2.2.2) M_X5_134 (rX2 F hI) rfl ⟨Nat.le_of_ble_eq_true rfl, Nat.le_of_ble_eq_true rfl⟩ ⟨Nat.zero_le _, Nat.zero_le _⟩ rfl (Nat.le_of_ble_eq_true rfl) dX5_errorOver_8) (fun v3 H locs hI hp1 => ?_)
  have hsc4 : Scr u.1 v3 := (Scr.rf _).tr hp1.2.scr
  have hCs5 := hsc4.rep hC
  have hBhCs5 : RepB 0 v3 X.1 := hCs5.1
  refine lv_aload_n hx hy dX5_errorOver_11 rfl (lv_at hl 0 rfl) ?_
  refine gX5_streams F hI L_X5_50 dX5_errorOver_12 ?_
  refine lv_aload_n hx hy dX5_errorOver_15 rfl (lv_at hl 0 rfl) ?_
  refine gX5_bench F hI L_X5_10 dX5_errorOver_16 ?_
  refine lv_iload_n hx hy dX5_errorOver_19 rfl (lv_at hl 1 rfl) ?_
  refine lv_iload_n hx hy dX5_errorOver_20 rfl (lv_at hl 2 rfl) ?_
  refine zV hI (xV F hI hl (kX4_fill l E ((v3, u.2)) (b := 0) (n := X.1.1) (f := X.1.2.2) (by decide) hBhCs5.2 hn16 hX.1.2.2.2 (nI j) (j + 1) (tk) ((tk + 64 - 1) / 64) (la_j _) (by omega) (by omega) rfl) M_X5_149 (rX4 F hI) rfl ⟨Nat.le_of_ble_eq_true rfl, Nat.le_of_ble_eq_true rfl⟩ ⟨Nat.zero_le _, Nat.zero_le _⟩ rfl (Nat.le_of_ble_eq_true rfl) dX5_errorOver_21) (fun v8 H locs hI hp6 => ?_)
  refine lv_aload_n hx hy dX5_errorOver_24 rfl (lv_at hl 0 rfl) ?_
  refine lv_iload_n hx hy dX5_errorOver_25 rfl (lv_at hl 1 rfl) ?_
  refine lv_iload_n hx hy dX5_errorOver_26 rfl (lv_at hl 2 rfl) ?_
  refine zI hI (xV F hI hl (kX5_errorOfFilled l E ((v3, v8)) (f := X.1.2.2) (w := (tk + 64 - 1) / 64) j tk (by omega) (hp6 j (by omega)) (by omega) (hp1.1.1 j (by omega)) (ex_le hX.1.2.2.2 _ (by omega)) (by omega) (by omega)) M_X5_194 (rX5 F hI) rfl ⟨Nat.le_of_ble_eq_true rfl, Nat.le_of_ble_eq_true rfl⟩ ⟨Nat.zero_le _, Nat.zero_le _⟩ rfl (Nat.le_of_ble_eq_true rfl) dX5_errorOver_27) (fun r10 v11 H locs hI hp9 => ?_)
  subst hp9
  exact rI hQ F (v := (v3, v8)) hI dX5_errorOver_30 ⟨rfl, hsc4⟩
set_option maxHeartbeats 400000 in
set_option maxRecDepth 100000 in
theorem kX5_fillAll (l : Launch) (E : EV) (u : SS) {X : XS} (hC : RepC u.1 X) (hX : XOk X) : CT l yX5_fillAll cX5_fillAll 1 none (Rm 5 121) [.ref (eA E 0)] E u (Q_v E (fun v => Scr u.1 v.1 ∧ FigI X.1.1 X.1.2.2 v.1 ∧ ∀ i, i < X.1.1 → RowG v.2 X.1.2.2 i ((X.1.2.1 + 64 - 1) / 64)) (fun (v : SS) => v)) := by
  refine mstart RX5 (by decide +kernel) rfl (Nat.le_of_ble_eq_true rfl) ?_
  intro p e s m args below meth co ls Q hQ F hI hl
  have hx := F.1
  have hy := F.2.1
  have hl : lv_has ls 1 [(0, .ref (eA E 0))] := hl
  have hC2 := hC
  obtain ⟨hB, ⟨o, hH⟩, hS, hT⟩ := hC2
  have hn16 := hX.1.1
  have hl1 := hX.1.2.1
  have hl2 := hX.1.2.2.1
  have hh4 := hX.2.1.1
  have ht80 := hT.2.1
  refine lv_aload_n hx hy dX5_fillAll_0 rfl (lv_at hl 0 rfl) ?_
  refine gX5_figures F hI L_X5_43 dX5_fillAll_1 ?_
  refine lv_aload_n hx hy dX5_fillAll_4 rfl (lv_at hl 0 rfl) ?_
  refine gX5_bench F hI L_X5_10 dX5_fillAll_5 ?_
  refine zV hI (xV F hI hl (kX2_workOut l E (u) (b := 0) (n := X.1.1) (f := X.1.2.2) (by decide) hB.2 hn16 hX.1.2.2.2) M_X5_134 (rX2 F hI) rfl ⟨Nat.le_of_ble_eq_true rfl, Nat.le_of_ble_eq_true rfl⟩ ⟨Nat.zero_le _, Nat.zero_le _⟩ rfl (Nat.le_of_ble_eq_true rfl) dX5_fillAll_8) (fun v3 H locs hI hp1 => ?_)
  have hsc4 : Scr u.1 v3 := (Scr.rf _).tr hp1.2.scr
  have hCs5 := hsc4.rep hC
  have hBhCs5 : RepB 0 v3 X.1 := hCs5.1
  refine lv_aload_n hx hy dX5_fillAll_11 rfl (lv_at hl 0 rfl) ?_
  refine gX5_streams F hI L_X5_50 dX5_fillAll_12 ?_
  refine lv_aload_n hx hy dX5_fillAll_15 rfl (lv_at hl 0 rfl) ?_
  refine gX5_bench F hI L_X5_10 dX5_fillAll_16 ?_
  refine lv_aload_n hx hy dX5_fillAll_19 rfl (lv_at hl 0 rfl) ?_
  refine gX5_bench F hI L_X5_10 dX5_fillAll_20 ?_
  refine gX0_size F hI (b := 0) (by decide) L_X5_90 dX5_fillAll_23 ?_
  refine tI (show _ = v3 2 0 from rfl) ?_
  refine tI hBhCs5.2.1 ?_
  refine lv_iconst (v := nI 1) hx hy dX5_fillAll_26 (by decide) ?_
  refine lv_isub hx hy dX5_fillAll_27 ?_
  refine lv_aload_n hx hy dX5_fillAll_28 rfl (lv_at hl 0 rfl) ?_
  refine gX5_bench F hI L_X5_10 dX5_fillAll_29 ?_
  refine gX0_length F hI (b := 0) (by decide) L_X5_97 dX5_fillAll_32 ?_
  refine tI (show _ = v3 1 0 from rfl) ?_
  refine tI hBhCs5.1 ?_
  refine zV hI (xV F hI hl (kX4_fill l E ((v3, u.2)) (b := 0) (n := X.1.1) (f := X.1.2.2) (by decide) hBhCs5.2 hn16 hX.1.2.2.2 (nI X.1.1 - nI 1) (X.1.1) (X.1.2.1) (((X.1.2.1) + 64 - 1) / 64) rfl (by omega) (by omega) rfl) M_X5_149 (rX4 F hI) rfl ⟨Nat.le_of_ble_eq_true rfl, Nat.le_of_ble_eq_true rfl⟩ ⟨Nat.zero_le _, Nat.zero_le _⟩ rfl (Nat.le_of_ble_eq_true rfl) dX5_fillAll_35) (fun v8 H locs hI hp6 => ?_)
  exact rV hQ F (v := (v3, v8)) hI dX5_fillAll_38 ⟨hsc4, hp1.1, hp6⟩
set_option maxHeartbeats 400000 in
set_option maxRecDepth 100000 in
theorem kX5_lastLengthBeyond (l : Launch) (E : EV) (u : SS) {X : XS} (hC : RepC u.1 X) (hX : XOk X) (j : Nat) (hj : j < X.1.1) (b : Nat) (hb : b ≤ 65536) : CT l yX5_lastLengthBeyond cX5_lastLengthBeyond 6 (some .int) (Rm 5 121) [.ref (eA E 0), .int (nI j), .int (nI b)] E u (Q_i E (fun r v => r = nI (lastF X.1.2.2 j b 1000) ∧ Scr u.1 v.1) (fun (v : SS) => v)) := by
  refine mstart RX5 (by decide +kernel) rfl (Nat.le_of_ble_eq_true rfl) ?_
  intro p e s m args below meth co ls Q hQ F hI hl
  have hx := F.1
  have hy := F.2.1
  have hl : lv_has ls 6 [(0, .ref (eA E 0)), (1, .int (nI j)), (2, .int (nI b))] := hl
  have hC2 := hC
  obtain ⟨hB, ⟨o, hH⟩, hS, hT⟩ := hC2
  have hn16 := hX.1.1
  have hl1 := hX.1.2.1
  have hl2 := hX.1.2.2.1
  have hh4 := hX.2.1.1
  have ht80 := hT.2.1
  have hexj := ex_le hX.1.2.2.2 j hj
  refine lv_aload_n hx hy dX5_lastLengthBeyond_0 rfl (lv_at hl 0 rfl) ?_
  refine gX5_figures F hI L_X5_43 dX5_lastLengthBeyond_1 ?_
  refine lv_aload_n hx hy dX5_lastLengthBeyond_4 rfl (lv_at hl 0 rfl) ?_
  refine gX5_bench F hI L_X5_10 dX5_lastLengthBeyond_5 ?_
  refine zV hI (xV F hI hl (kX2_workOut l E (u) (b := 0) (n := X.1.1) (f := X.1.2.2) (by decide) hB.2 hn16 hX.1.2.2.2) M_X5_134 (rX2 F hI) rfl ⟨Nat.le_of_ble_eq_true rfl, Nat.le_of_ble_eq_true rfl⟩ ⟨Nat.zero_le _, Nat.zero_le _⟩ rfl (Nat.le_of_ble_eq_true rfl) dX5_lastLengthBeyond_8) (fun v3 H locs hI hp1 => ?_)
  have hsc4 : Scr u.1 v3 := (Scr.rf _).tr hp1.2.scr
  have hCs5 := hsc4.rep hC
  have hBhCs5 : RepB 0 v3 X.1 := hCs5.1
  refine lv_aload_n hx hy dX5_lastLengthBeyond_11 rfl (lv_at hl 0 rfl) ?_
  refine gX5_streams F hI L_X5_50 dX5_lastLengthBeyond_12 ?_
  refine lv_aload_n hx hy dX5_lastLengthBeyond_15 rfl (lv_at hl 0 rfl) ?_
  refine gX5_bench F hI L_X5_10 dX5_lastLengthBeyond_16 ?_
  refine lv_iload_n hx hy dX5_lastLengthBeyond_19 rfl (lv_at hl 1 rfl) ?_
  refine lv_sipush (v := nI 1000) hx hy dX5_lastLengthBeyond_20 (by decide) ?_
  refine zV hI (xV F hI hl (kX4_fill l E ((v3, u.2)) (b := 0) (n := X.1.1) (f := X.1.2.2) (by decide) hBhCs5.2 hn16 hX.1.2.2.2 (nI j) (j + 1) (1000) ((1000 + 64 - 1) / 64) (la_j _) (by omega) (by omega) rfl) M_X5_149 (rX4 F hI) rfl ⟨Nat.le_of_ble_eq_true rfl, Nat.le_of_ble_eq_true rfl⟩ ⟨Nat.zero_le _, Nat.zero_le _⟩ rfl (Nat.le_of_ble_eq_true rfl) dX5_lastLengthBeyond_23) (fun v8 H locs hI hp6 => ?_)
  refine lv_iconst (v := nI 0) hx hy dX5_lastLengthBeyond_26 (by decide) ?_
  refine lv_istore_n (lv' := [(3, .int (nI 0)), (0, .ref (eA E 0)), (1, .int (nI j)), (2, .int (nI b))]) hx hy dX5_lastLengthBeyond_27 rfl hl (by decide) rfl (fun ls hl => ?_)
  refine lv_iconst (v := nI 0) hx hy dX5_lastLengthBeyond_28 (by decide) ?_
  refine lv_istore (lv' := [(4, .int (nI 0)), (3, .int (nI 0)), (0, .ref (eA E 0)), (1, .int (nI j)), (2, .int (nI b))]) hx hy dX5_lastLengthBeyond_29 hl (by decide) rfl (fun ls hl => ?_)
  refine lv_iconst (v := nI 1) hx hy dX5_lastLengthBeyond_31 (by decide) ?_
  refine lv_istore (lv' := [(5, .int (nI 1)), (4, .int (nI 0)), (3, .int (nI 0)), (0, .ref (eA E 0)), (1, .int (nI j)), (2, .int (nI b))]) hx hy dX5_lastLengthBeyond_32 hl (by decide) rfl (fun ls hl => ?_)
  have lp9 : ∀ (fu : Nat) (t : Nat), (t ≤ 1000) → (1000 - t < fu) →  ∀ (H : Heap) (locs : List Loc) (ls : Array Slot), Iv E s H locs ((v3, v8)) → lv_has ls 6 [(5, .int (nI (t + 1))), (4, .int (nI (cnt X.1.2.2 j t))), (3, .int (nI (lastF X.1.2.2 j b t))), (0, .ref (eA E 0)), (1, .int (nI j)), (2, .int (nI b))] → W p l e (Rm 5 121) s m args below meth co H locs 0 0 Q (F0 m 34 ls []) := by
    intro fu
    induction fu with
    | zero => intro t hi hf; exact absurd hf (Nat.not_lt_zero _)
    | succ fu ih =>
      intro t hi hf H locs ls hI hl
      have ih_34 := ih
      refine lv_iload hx hy dX5_lastLengthBeyond_34 (lv_at hl 0 rfl) ?_
      refine lv_sipush (v := nI 1000) hx hy dX5_lastLengthBeyond_36 (by decide) ?_
      refine lv_icmp_gt (tgt := 81) hx hy dX5_lastLengthBeyond_39 (by decide) (fun h10 => ?_) (fun h10 => ?_)
      · have h10 : 1000 < t + 1 := (nI_ltI (a := 1000) (b := t + 1) (by omega) (by omega)).mp h10
        refine lv_iload_n hx hy dX5_lastLengthBeyond_81 rfl (lv_at hl 2 rfl) ?_
        exact rI hQ F (v := (v3, v8)) hI dX5_lastLengthBeyond_82 ⟨by rw [show t = 1000 from by omega], hsc4⟩
      · have h10 : t + 1 ≤ 1000 := Nat.le_of_not_lt (fun q9 => h10 ((nI_ltI (a := 1000) (b := t + 1) (by omega) (by omega)).mpr q9))
        refine lv_iload hx hy dX5_lastLengthBeyond_42 (lv_at hl 1 rfl) ?_
        refine lv_aload_n hx hy dX5_lastLengthBeyond_44 rfl (lv_at hl 3 rfl) ?_
        refine gX5_streams F hI L_X5_50 dX5_lastLengthBeyond_45 ?_
        refine lv_iload_n hx hy dX5_lastLengthBeyond_48 rfl (lv_at hl 4 rfl) ?_
        refine lv_iload hx hy dX5_lastLengthBeyond_49 (lv_at hl 0 rfl) ?_
        refine lv_iconst (v := nI 1) hx hy dX5_lastLengthBeyond_51 (by decide) ?_
        refine lv_isub hx hy dX5_lastLengthBeyond_52 ?_
        refine tI (pk_sub (a := t + 1) (b := 1) (by omega)) ?_
        refine tI (show _ = nI t from rfl) ?_
        refine zI hI (xV F hI hl (kX4_bitAt l E ((v3, v8)) j t (by omega) (by omega)) M_X5_153 (rX4 F hI) rfl ⟨Nat.le_of_ble_eq_true rfl, Nat.le_of_ble_eq_true rfl⟩ ⟨Nat.zero_le _, Nat.zero_le _⟩ rfl (Nat.le_of_ble_eq_true rfl) dX5_lastLengthBeyond_53) (fun r12 v13 H locs hI hp11 => ?_)
        subst hp11
        refine tI (show _ = nI (bN (gb v8 j t)) from rfl) ?_
        refine lv_iadd hx hy dX5_lastLengthBeyond_56 ?_
        refine tI (nI_add (cnt X.1.2.2 j t) (bN (gb v8 j t))) ?_
        refine tI (show _ = nI (cnt X.1.2.2 j (t + 1)) from by rw [rowG_gb (hp6 j (by omega)) (by omega)]; exact congrArg nI (cnt_suc _ _ _)) ?_
        have hcl := cnt_le X.1.2.2 j (t + 1)
        refine lv_istore (lv' := [(4, .int (nI (cnt X.1.2.2 j (t + 1)))), (5, .int (nI (t + 1))), (3, .int (nI (lastF X.1.2.2 j b t))), (0, .ref (eA E 0)), (1, .int (nI j)), (2, .int (nI b))]) hx hy dX5_lastLengthBeyond_57 hl (by decide) rfl (fun ls hl => ?_)
        refine lv_aload_n hx hy dX5_lastLengthBeyond_59 rfl (lv_at hl 3 rfl) ?_
        refine lv_iload_n hx hy dX5_lastLengthBeyond_60 rfl (lv_at hl 4 rfl) ?_
        refine lv_iload hx hy dX5_lastLengthBeyond_61 (lv_at hl 0 rfl) ?_
        refine lv_iload hx hy dX5_lastLengthBeyond_63 (lv_at hl 1 rfl) ?_
        refine zI hI (xV F hI hl (kX5_errorOfCount l E ((v3, v8)) j (cnt X.1.2.2 j (t + 1)) (t + 1) (ex X.1.2.2 j) (by omega) (hp1.1.1 j (by omega)) hexj hcl (by omega) (by omega)) M_X5_197 (rX5 F hI) rfl ⟨Nat.le_of_ble_eq_true rfl, Nat.le_of_ble_eq_true rfl⟩ ⟨Nat.zero_le _, Nat.zero_le _⟩ rfl (Nat.le_of_ble_eq_true rfl) dX5_lastLengthBeyond_65) (fun r15 v16 H locs hI hp14 => ?_)
        subst hp14
        refine lv_iload_n hx hy dX5_lastLengthBeyond_68 rfl (lv_at hl 5 rfl) ?_
        refine lv_icmp_le (tgt := 75) hx hy dX5_lastLengthBeyond_69 (by decide) (fun h17 => ?_) (fun h17 => ?_)
        · have h17 : errN X.1.2.2 j (t + 1) ≤ b := (nI_leI (a := errN X.1.2.2 j (t + 1)) (b := b) (by have := errN_le (t := t + 1) hexj; omega) (by omega)).mp h17
          have e7 : lastF X.1.2.2 j b (t + 1) = lastF X.1.2.2 j b t := if_neg (by omega)
          have hl : lv_has ls 6 [(4, .int (nI (cnt X.1.2.2 j (t + 1)))), (5, .int (nI (t + 1))), (3, .int (nI (lastF X.1.2.2 j b (t + 1)))), (0, .ref (eA E 0)), (1, .int (nI j)), (2, .int (nI b))] := by rw [e7]; exact hl
          refine lv_iinc (v := nI (t + 1 + 1)) (lv' := [(5, .int (nI (t + 1 + 1))), (4, .int (nI (cnt X.1.2.2 j (t + 1)))), (3, .int (nI (lastF X.1.2.2 j b (t + 1)))), (0, .ref (eA E 0)), (1, .int (nI j)), (2, .int (nI b))]) hx hy dX5_lastLengthBeyond_75 hl (k := 1) rfl (nI_add (t + 1) 1) (by decide) rfl (fun ls hl => ?_)
          refine lv_goto (tgt := 34) hx hy dX5_lastLengthBeyond_78 (by decide) ?_
          exact ih_34 (t + 1) (by omega) (by omega) _ _ _ hI (lv_sub hl [0, 1, 2, 3, 4, 5] rfl)
        · have h17 : b < errN X.1.2.2 j (t + 1) := Nat.lt_of_not_le (fun q9 => h17 ((nI_leI (a := errN X.1.2.2 j (t + 1)) (b := b) (by have := errN_le (t := t + 1) hexj; omega) (by omega)).mpr q9))
          refine lv_iload hx hy dX5_lastLengthBeyond_72 (lv_at hl 1 rfl) ?_
          refine lv_istore_n (lv' := [(3, .int (nI (t + 1))), (4, .int (nI (cnt X.1.2.2 j (t + 1)))), (5, .int (nI (t + 1))), (0, .ref (eA E 0)), (1, .int (nI j)), (2, .int (nI b))]) hx hy dX5_lastLengthBeyond_74 rfl hl (by decide) rfl (fun ls hl => ?_)
          have e7 : lastF X.1.2.2 j b (t + 1) = t + 1 := if_pos h17
          have hl : lv_has ls 6 [(3, .int (nI (lastF X.1.2.2 j b (t + 1)))), (4, .int (nI (cnt X.1.2.2 j (t + 1)))), (5, .int (nI (t + 1))), (0, .ref (eA E 0)), (1, .int (nI j)), (2, .int (nI b))] := by rw [e7]; exact hl
          refine lv_iinc (v := nI (t + 1 + 1)) (lv' := [(5, .int (nI (t + 1 + 1))), (3, .int (nI (lastF X.1.2.2 j b (t + 1)))), (4, .int (nI (cnt X.1.2.2 j (t + 1)))), (0, .ref (eA E 0)), (1, .int (nI j)), (2, .int (nI b))]) hx hy dX5_lastLengthBeyond_75 hl (k := 2) rfl (nI_add (t + 1) 1) (by decide) rfl (fun ls hl => ?_)
          refine lv_goto (tgt := 34) hx hy dX5_lastLengthBeyond_78 (by decide) ?_
          exact ih_34 (t + 1) (by omega) (by omega) _ _ _ hI (lv_sub hl [0, 2, 1, 3, 4, 5] rfl)
  exact lp9 1001 0 (by omega) (by omega) _ _ _ hI (lv_sub hl [0, 1, 2, 3, 4, 5] rfl)
set_option maxHeartbeats 400000 in
set_option maxRecDepth 100000 in
theorem kX5_sumOfErrors (l : Launch) (E : EV) (u : SS) {X : XS} (hC : RepC u.1 X) (hX : XOk X) : CT l yX5_sumOfErrors cX5_sumOfErrors 3 (some .int) (Rm 6 141) [.ref (eA E 0)] E u (Q_i E (fun r v => r = nI (sumE X.1.2.2 X.1.2.1 X.1.1) ∧ Scr u.1 v.1) (fun (v : SS) => v)) := by
  refine mstart RX5 (by decide +kernel) rfl (Nat.le_of_ble_eq_true rfl) ?_
  intro p e s m args below meth co ls Q hQ F hI hl
  have hx := F.1
  have hy := F.2.1
  have hl : lv_has ls 3 [(0, .ref (eA E 0))] := hl
  have hC2 := hC
  obtain ⟨hB, ⟨o, hH⟩, hS, hT⟩ := hC2
  have hn16 := hX.1.1
  have hl1 := hX.1.2.1
  have hl2 := hX.1.2.2.1
  have hh4 := hX.2.1.1
  have ht80 := hT.2.1
  refine lv_aload_n hx hy dX5_sumOfErrors_0 rfl (lv_at hl 0 rfl) ?_
  refine zV hI (xV F hI hl (kX5_fillAll l E (u) hC hX) M_X5_207 (rX5 F hI) rfl ⟨Nat.le_of_ble_eq_true rfl, Nat.le_of_ble_eq_true rfl⟩ ⟨Nat.zero_le _, Nat.zero_le _⟩ rfl (Nat.le_of_ble_eq_true rfl) dX5_sumOfErrors_1) (fun v3 H locs hI hp1 => ?_)
  have hsc4 : Scr u.1 v3.1 := hp1.1
  have hCs5 := hsc4.rep hC
  have hBhCs5 : RepB 0 v3.1 X.1 := hCs5.1
  refine lv_iconst (v := nI 0) hx hy dX5_sumOfErrors_4 (by decide) ?_
  refine lv_istore_n (lv' := [(1, .int (nI 0)), (0, .ref (eA E 0))]) hx hy dX5_sumOfErrors_5 rfl hl (by decide) rfl (fun ls hl => ?_)
  refine lv_iconst (v := nI 0) hx hy dX5_sumOfErrors_6 (by decide) ?_
  refine lv_istore_n (lv' := [(2, .int (nI 0)), (1, .int (nI 0)), (0, .ref (eA E 0))]) hx hy dX5_sumOfErrors_7 rfl hl (by decide) rfl (fun ls hl => ?_)
  have lp6 : ∀ (fu : Nat) (i : Nat), (i ≤ X.1.1) → (X.1.1 - i < fu) →  ∀ (H : Heap) (locs : List Loc) (ls : Array Slot), Iv E s H locs (v3) → lv_has ls 3 [(2, .int (nI i)), (1, .int (nI (sumE X.1.2.2 X.1.2.1 i))), (0, .ref (eA E 0))] → W p l e (Rm 6 141) s m args below meth co H locs 0 0 Q (F0 m 8 ls []) := by
    intro fu
    induction fu with
    | zero => intro i hi hf; exact absurd hf (Nat.not_lt_zero _)
    | succ fu ih =>
      intro i hi hf H locs ls hI hl
      have ih_8 := ih
      refine lv_iload_n hx hy dX5_sumOfErrors_8 rfl (lv_at hl 0 rfl) ?_
      refine lv_aload_n hx hy dX5_sumOfErrors_9 rfl (lv_at hl 2 rfl) ?_
      refine gX5_bench F hI L_X5_10 dX5_sumOfErrors_10 ?_
      refine gX0_size F hI (b := 0) (by decide) L_X5_90 dX5_sumOfErrors_13 ?_
      refine tI (show _ = v3.1 2 0 from rfl) ?_
      refine tI hBhCs5.2.1 ?_
      refine lv_icmp_ge (tgt := 40) hx hy dX5_sumOfErrors_16 (by decide) (fun h7 => ?_) (fun h7 => ?_)
      · have h7 : X.1.1 ≤ i := (nI_leI (a := X.1.1) (b := i) (by omega) (by omega)).mp h7
        refine lv_iload_n hx hy dX5_sumOfErrors_40 rfl (lv_at hl 1 rfl) ?_
        exact rI hQ F (v := (v3.1, v3.2)) hI dX5_sumOfErrors_41 ⟨by rw [show i = X.1.1 from by omega], hsc4⟩
      · have h7 : i < X.1.1 := Nat.lt_of_not_le (fun q9 => h7 ((nI_leI (a := X.1.1) (b := i) (by omega) (by omega)).mpr q9))
        refine lv_iload_n hx hy dX5_sumOfErrors_19 rfl (lv_at hl 1 rfl) ?_
        refine lv_aload_n hx hy dX5_sumOfErrors_20 rfl (lv_at hl 2 rfl) ?_
        refine lv_iload_n hx hy dX5_sumOfErrors_21 rfl (lv_at hl 0 rfl) ?_
        refine lv_aload_n hx hy dX5_sumOfErrors_22 rfl (lv_at hl 2 rfl) ?_
        refine gX5_bench F hI L_X5_10 dX5_sumOfErrors_23 ?_
        refine gX0_length F hI (b := 0) (by decide) L_X5_97 dX5_sumOfErrors_26 ?_
        refine tI (show _ = v3.1 1 0 from rfl) ?_
        refine tI hBhCs5.1 ?_
        refine zI hI (xV F hI hl (kX5_errorOfFilled l E (v3) (f := X.1.2.2) (w := ((X.1.2.1) + 64 - 1) / 64) i (X.1.2.1) (by omega) (hp1.2.2 i (by omega)) (by omega) (hp1.2.1.1 i (by omega)) (ex_le hX.1.2.2.2 _ (by omega)) (by omega) (by omega)) M_X5_194 (rX5 F hI) rfl ⟨Nat.le_of_ble_eq_true rfl, Nat.le_of_ble_eq_true rfl⟩ ⟨Nat.zero_le _, Nat.zero_le _⟩ rfl (Nat.le_of_ble_eq_true rfl) dX5_sumOfErrors_29) (fun r9 v10 H locs hI hp8 => ?_)
        subst hp8
        refine lv_iadd hx hy dX5_sumOfErrors_32 ?_
        refine tI (nI_add (sumE X.1.2.2 X.1.2.1 i) (errN X.1.2.2 i X.1.2.1)) ?_
        refine lv_istore_n (lv' := [(1, .int (nI (sumE X.1.2.2 X.1.2.1 i + errN X.1.2.2 i X.1.2.1))), (2, .int (nI i)), (0, .ref (eA E 0))]) hx hy dX5_sumOfErrors_33 rfl hl (by decide) rfl (fun ls hl => ?_)
        have hl : lv_has ls 3 [(1, .int (nI (sumE X.1.2.2 X.1.2.1 (i + 1)))), (2, .int (nI i)), (0, .ref (eA E 0))] := hl
        refine lv_iinc (v := nI (i + 1)) (lv' := [(2, .int (nI (i + 1))), (1, .int (nI (sumE X.1.2.2 X.1.2.1 (i + 1)))), (0, .ref (eA E 0))]) hx hy dX5_sumOfErrors_34 hl (k := 1) rfl (nI_add (i) 1) (by decide) rfl (fun ls hl => ?_)
        refine lv_goto (tgt := 8) hx hy dX5_sumOfErrors_37 (by decide) ?_
        exact ih_8 (i + 1) (by omega) (by omega) _ _ _ hI (lv_sub hl [0, 1, 2] rfl)
  exact lp6 (X.1.1 + 1) 0 (by omega) (by omega) _ _ _ hI (lv_sub hl [0, 1, 2] rfl)
