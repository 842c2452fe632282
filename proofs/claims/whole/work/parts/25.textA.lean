set_option maxHeartbeats 400000 in
set_option maxRecDepth 100000 in
theorem kX1_append (l : Launch) (E : EV) (u : SS) {n : Nat} (hn : u.1 0 3 = nI n) (h80 : n < 80) (ch : Nat) (hc : ch < 65536) : CT l yX1_append cX1_append 2 none (Rm 0 0) [.ref (eA E 3), .int (nI ch)] E u (Q_v E (fun c => c = up (up u.1 6 n (nI ch)) 0 3 (nI (n + 1))) (fun (c : CF) => (c, u.2))) := by
  refine mstart RX1 (by decide +kernel) rfl (Nat.le_of_ble_eq_true rfl) ?_
  intro p e s m args below meth co ls Q hQ F hI hl
  have hx := F.1
  have hy := F.2.1
  have hl : lv_has ls 2 [(0, .ref (eA E 3)), (1, .int (nI ch))] := hl
  refine lv_aload_n hx hy dX1_append_0 rfl (lv_at hl 0 rfl) ?_
  refine gX1_size F hI L_X1_15 dX1_append_1 ?_
  refine tI hn ?_
  refine lv_if_lt (tgt := 39) hx hy dX1_append_4 (by decide) (fun h1 => ?_) (fun h1 => ?_)
  · have h1 : n < 0 := (nI_ltI (a := n) (b := 0) (by omega) (by omega)).mp h1
    exact absurd h1 (by omega)
  · have h1 : 0 ≤ n := Nat.le_of_not_lt (fun q9 => h1 ((nI_ltI (a := n) (b := 0) (by omega) (by omega)).mpr q9))
    refine lv_aload_n hx hy dX1_append_7 rfl (lv_at hl 0 rfl) ?_
    refine gX1_size F hI L_X1_15 dX1_append_8 ?_
    refine tI hn ?_
    refine lv_aload_n hx hy dX1_append_11 rfl (lv_at hl 0 rfl) ?_
    refine gX1_characters F hI L_X1_9 dX1_append_12 ?_
    refine aCn F hI dX1_append_15 ?_
    refine lv_icmp_ge (tgt := 39) hx hy dX1_append_16 (by decide) (fun h2 => ?_) (fun h2 => ?_)
    · have h2 : 80 ≤ n := (nI_leI (a := 80) (b := n) (by omega) (by omega)).mp h2
      exact absurd h2 (by omega)
    · have h2 : n < 80 := Nat.lt_of_not_le (fun q9 => h2 ((nI_leI (a := 80) (b := n) (by omega) (by omega)).mpr q9))
      refine lv_aload_n hx hy dX1_append_19 rfl (lv_at hl 0 rfl) ?_
      refine gX1_characters F hI L_X1_9 dX1_append_20 ?_
      refine lv_aload_n hx hy dX1_append_23 rfl (lv_at hl 0 rfl) ?_
      refine gX1_size F hI L_X1_15 dX1_append_24 ?_
      refine tI hn ?_
      refine lv_iload_n hx hy dX1_append_27 rfl (lv_at hl 1 rfl) ?_
      refine aCs F hI (i := n) (nar_ch hc).2 (by omega) dX1_append_28 (fun H locs hI => ?_)
      obtain ⟨c3, ec3⟩ : ∃ z9 : CF, z9 = up u.1 6 n (nI ch) := ⟨_, rfl⟩
      have hI : Iv E s H locs (c3, u.2) := by rw [ec3]; exact hI
      have kf4 : c3 0 3 = nI n := by rw [ec3, up_at, if_neg (by omega)]; exact hn
      refine lv_aload_n hx hy dX1_append_29 rfl (lv_at hl 0 rfl) ?_
      refine lv_dup hx hy dX1_append_30 rfl ?_
      refine gX1_size F hI L_X1_15 dX1_append_31 ?_
      refine tI (show _ = c3 0 3 from rfl) ?_
      refine tI kf4 ?_
      refine lv_iconst (v := nI 1) hx hy dX1_append_34 (by decide) ?_
      refine lv_iadd hx hy dX1_append_35 ?_
      refine tI (nI_add (n) (1)) ?_
      refine pX1_size F hI L_X1_15 dX1_append_36 (fun H locs hI => ?_)
      obtain ⟨c5, ec5⟩ : ∃ z9 : CF, z9 = up c3 0 3 (nI (n + 1)) := ⟨_, rfl⟩
      have hI : Iv E s H locs (c5, u.2) := by rw [ec5]; exact hI
      exact rV hQ F (v := c5) hI dX1_append_39 (by rw [ec5, ec3])
set_option maxHeartbeats 400000 in
set_option maxRecDepth 100000 in
theorem kX1_isHere (l : Launch) (E : EV) (u : SS) {z : Tx} {a : Nat} (hT : TxC u.1 z) (hp : u.1 0 4 = nI a) (ha : a ≤ z.1) (ch : Nat) (hc : ch < 65536) : CT l yX1_isHere cX1_isHere 2 (some .boolean) (Rm 0 0) [.ref (eA E 3), .int (nI ch)] E u (Q_i E (fun r _ => r = if a < z.1 ∧ z.2 a = ch then 1 else 0) (fun (_ : Unit) => u)) := by
  refine mstart RX1 (by decide +kernel) rfl (Nat.le_of_ble_eq_true rfl) ?_
  intro p e s m args below meth co ls Q hQ F hI hl
  have hx := F.1
  have hy := F.2.1
  have hl : lv_has ls 2 [(0, .ref (eA E 3)), (1, .int (nI ch))] := hl
  have hT2 := hT.2.1
  refine lv_aload_n hx hy dX1_isHere_0 rfl (lv_at hl 0 rfl) ?_
  refine gX1_place F hI L_X1_19 dX1_isHere_1 ?_
  refine tI hp ?_
  refine lv_if_lt (tgt := 47) hx hy dX1_isHere_4 (by decide) (fun h1 => ?_) (fun h1 => ?_)
  · have h1 : a < 0 := (nI_ltI (a := a) (b := 0) (by omega) (by omega)).mp h1
    exact absurd h1 (by omega)
  · have h1 : 0 ≤ a := Nat.le_of_not_lt (fun q9 => h1 ((nI_ltI (a := a) (b := 0) (by omega) (by omega)).mpr q9))
    refine lv_aload_n hx hy dX1_isHere_7 rfl (lv_at hl 0 rfl) ?_
    refine gX1_place F hI L_X1_19 dX1_isHere_8 ?_
    refine tI hp ?_
    refine lv_aload_n hx hy dX1_isHere_11 rfl (lv_at hl 0 rfl) ?_
    refine gX1_size F hI L_X1_15 dX1_isHere_12 ?_
    refine tI hT.1 ?_
    refine lv_icmp_ge (tgt := 47) hx hy dX1_isHere_15 (by decide) (fun h2 => ?_) (fun h2 => ?_)
    · have h2 : z.1 ≤ a := (nI_leI (a := z.1) (b := a) (by omega) (by omega)).mp h2
      refine lv_iconst (v := nI 0) hx hy dX1_isHere_47 (by decide) ?_
      exact rZ hQ F (v := ()) rfl hI dX1_isHere_48 (if_neg (fun q9 => absurd q9.1 (by omega))).symm
    · have h2 : a < z.1 := Nat.lt_of_not_le (fun q9 => h2 ((nI_leI (a := z.1) (b := a) (by omega) (by omega)).mpr q9))
      refine lv_aload_n hx hy dX1_isHere_18 rfl (lv_at hl 0 rfl) ?_
      refine gX1_place F hI L_X1_19 dX1_isHere_19 ?_
      refine tI hp ?_
      refine lv_aload_n hx hy dX1_isHere_22 rfl (lv_at hl 0 rfl) ?_
      refine gX1_characters F hI L_X1_9 dX1_isHere_23 ?_
      refine aCn F hI dX1_isHere_26 ?_
      refine lv_icmp_ge (tgt := 47) hx hy dX1_isHere_27 (by decide) (fun h3 => ?_) (fun h3 => ?_)
      · have h3 : 80 ≤ a := (nI_leI (a := 80) (b := a) (by omega) (by omega)).mp h3
        exact absurd h3 (by omega)
      · have h3 : a < 80 := Nat.lt_of_not_le (fun q9 => h3 ((nI_leI (a := 80) (b := a) (by omega) (by omega)).mpr q9))
        refine lv_aload_n hx hy dX1_isHere_30 rfl (lv_at hl 0 rfl) ?_
        refine gX1_characters F hI L_X1_9 dX1_isHere_31 ?_
        refine lv_aload_n hx hy dX1_isHere_34 rfl (lv_at hl 0 rfl) ?_
        refine gX1_place F hI L_X1_19 dX1_isHere_35 ?_
        refine tI hp ?_
        refine aCl F hI (i := a) (by omega) dX1_isHere_38 ?_
        refine tI (hT.2.2 a (by omega)).1 ?_
        refine lv_iload_n hx hy dX1_isHere_39 rfl (lv_at hl 1 rfl) ?_
        refine lv_icmp_ne (tgt := 47) hx hy dX1_isHere_40 (by decide) (fun h4 => ?_) (fun h4 => ?_)
        · have h4 : z.2 a ≠ ch := fun q9 => h4 ((nI_eq (a := z.2 a) (b := ch) (by have := (hT.2.2 a (by omega)).2; omega) (by omega)).mpr q9)
          refine lv_iconst (v := nI 0) hx hy dX1_isHere_47 (by decide) ?_
          exact rZ hQ F (v := ()) rfl hI dX1_isHere_48 (if_neg (fun q9 => h4 q9.2)).symm
        · have h4 : z.2 a = ch := (nI_eq (a := z.2 a) (b := ch) (by have := (hT.2.2 a (by omega)).2; omega) (by omega)).mp h4
          refine lv_iconst (v := nI 1) hx hy dX1_isHere_43 (by decide) ?_
          refine lv_goto (tgt := 48) hx hy dX1_isHere_44 (by decide) ?_
          exact rZ hQ F (v := ()) rfl hI dX1_isHere_48 (if_pos ⟨h2, h4⟩).symm
set_option maxHeartbeats 400000 in
set_option maxRecDepth 100000 in
theorem kX1_take (l : Launch) (E : EV) (u : SS) {z : Tx} {a : Nat} (hT : TxC u.1 z) (hp : u.1 0 4 = nI a) (ha : a ≤ z.1) (ch : Nat) (hc : ch < 65536) : CT l yX1_take cX1_take 2 (some .boolean) (Rm 1 21) [.ref (eA E 3), .int (nI ch)] E u (Q_i E (fun r c => if a < z.1 ∧ z.2 a = ch then r = 1 ∧ c = up u.1 0 4 (nI (a + 1)) else r = 0 ∧ c = u.1) (fun (c : CF) => (c, u.2))) := by
  refine mstart RX1 (by decide +kernel) rfl (Nat.le_of_ble_eq_true rfl) ?_
  intro p e s m args below meth co ls Q hQ F hI hl
  have hx := F.1
  have hy := F.2.1
  have hl : lv_has ls 2 [(0, .ref (eA E 3)), (1, .int (nI ch))] := hl
  refine lv_aload_n hx hy dX1_take_0 rfl (lv_at hl 0 rfl) ?_
  refine lv_iload_n hx hy dX1_take_1 rfl (lv_at hl 1 rfl) ?_
  refine zI hI (xV F hI hl (kX1_isHere l E (u) hT hp (by omega) ch (by omega)) M_X1_77 (rX1 F hI) rfl ⟨Nat.le_of_ble_eq_true rfl, Nat.le_of_ble_eq_true rfl⟩ ⟨Nat.zero_le _, Nat.zero_le _⟩ rfl (Nat.le_of_ble_eq_true rfl) dX1_take_2) (fun r2 v3 H locs hI hp1 => ?_)
  by_cases hb4 : a < z.1 ∧ z.2 a = ch
  · rw [if_pos hb4] at hp1
    subst hp1
    refine lv_if_ne (tgt := 10) hx hy dX1_take_5 (by decide) (fun _ => ?_) (fun q => absurd q (by decide))
    refine lv_aload_n hx hy dX1_take_10 rfl (lv_at hl 0 rfl) ?_
    refine lv_dup hx hy dX1_take_11 rfl ?_
    refine gX1_place F hI L_X1_19 dX1_take_12 ?_
    refine tI hp ?_
    refine lv_iconst (v := nI 1) hx hy dX1_take_15 (by decide) ?_
    refine lv_iadd hx hy dX1_take_16 ?_
    refine tI (nI_add (a) (1)) ?_
    refine pX1_place F hI L_X1_19 dX1_take_17 (fun H locs hI => ?_)
    obtain ⟨c5, ec5⟩ : ∃ z9 : CF, z9 = up u.1 0 4 (nI (a + 1)) := ⟨_, rfl⟩
    have hI : Iv E s H locs (c5, u.2) := by rw [ec5]; exact hI
    refine lv_iconst (v := nI 1) hx hy dX1_take_20 (by decide) ?_
    exact rZ hQ F (v := c5) rfl hI dX1_take_21 (by rw [if_pos hb4]; exact ⟨rfl, ec5⟩)
  · rw [if_neg hb4] at hp1
    subst hp1
    refine lv_if_ne (tgt := 10) hx hy dX1_take_5 (by decide) (fun q => absurd q (by decide)) (fun _ => ?_)
    refine lv_iconst (v := nI 0) hx hy dX1_take_8 (by decide) ?_
    exact rZ hQ F (v := u.1) rfl hI dX1_take_9 (by rw [if_neg hb4]; exact ⟨rfl, rfl⟩)
set_option maxHeartbeats 400000 in
set_option maxRecDepth 100000 in
theorem kX1_wordOfKind (l : Launch) (E : EV) (u : SS) (k : Nat) (hk : k < 7) : CT l yX1_wordOfKind cX1_wordOfKind 1 (some (.object "java/lang/String")) (Rm 0 0) [.int (nI k)] E u (Q_q E (fun r _ => r = some (eS E (10 + k))) (fun (_ : Unit) => u)) := by
  refine mstart RX1 (by decide +kernel) rfl (Nat.le_of_ble_eq_true rfl) ?_
  intro p e s m args below meth co ls Q hQ F hI hl
  have hx := F.1
  have hy := F.2.1
  have hl : lv_has ls 1 [(0, .int (nI k))] := hl
  refine lv_iload_n hx hy dX1_wordOfKind_0 rfl (lv_at hl 0 rfl) ?_
  rcases (show k = 0 ∨ k = 1 ∨ k = 2 ∨ k = 3 ∨ k = 4 ∨ k = 5 ∨ k = 6 by omega) with hk1 | hk1 | hk1 | hk1 | hk1 | hk1 | hk1
  · refine tI (show nI k = nI 0 from by rw [hk1]) ?_
    refine lv_tableIn (tgt := 40) hx hy dX1_wordOfKind_1 (by decide) (by decide) (by rfl) (by decide) ?_
    refine sL F hI (i := 0) (tx := "") (by decide) rfl rfl dX1_wordOfKind_40 ?_
    exact rQ hQ F (v := ()) hI dX1_wordOfKind_42 (by rw [hk1])
  · refine tI (show nI k = nI 1 from by rw [hk1]) ?_
    refine lv_tableIn (tgt := 43) hx hy dX1_wordOfKind_1 (by decide) (by decide) (by rfl) (by decide) ?_
    refine sL F hI (i := 1) (tx := "") (by decide) rfl rfl dX1_wordOfKind_43 ?_
    exact rQ hQ F (v := ()) hI dX1_wordOfKind_45 (by rw [hk1])
  · refine tI (show nI k = nI 2 from by rw [hk1]) ?_
    refine lv_tableIn (tgt := 46) hx hy dX1_wordOfKind_1 (by decide) (by decide) (by rfl) (by decide) ?_
    refine sL F hI (i := 2) (tx := "") (by decide) rfl rfl dX1_wordOfKind_46 ?_
    exact rQ hQ F (v := ()) hI dX1_wordOfKind_48 (by rw [hk1])
  · refine tI (show nI k = nI 3 from by rw [hk1]) ?_
    refine lv_tableIn (tgt := 49) hx hy dX1_wordOfKind_1 (by decide) (by decide) (by rfl) (by decide) ?_
    refine sL F hI (i := 3) (tx := "") (by decide) rfl rfl dX1_wordOfKind_49 ?_
    exact rQ hQ F (v := ()) hI dX1_wordOfKind_51 (by rw [hk1])
  · refine tI (show nI k = nI 4 from by rw [hk1]) ?_
    refine lv_tableIn (tgt := 52) hx hy dX1_wordOfKind_1 (by decide) (by decide) (by rfl) (by decide) ?_
    refine sL F hI (i := 4) (tx := "") (by decide) rfl rfl dX1_wordOfKind_52 ?_
    exact rQ hQ F (v := ()) hI dX1_wordOfKind_54 (by rw [hk1])
  · refine tI (show nI k = nI 5 from by rw [hk1]) ?_
    refine lv_tableIn (tgt := 55) hx hy dX1_wordOfKind_1 (by decide) (by decide) (by rfl) (by decide) ?_
    refine sL F hI (i := 5) (tx := "") (by decide) rfl rfl dX1_wordOfKind_55 ?_
    exact rQ hQ F (v := ()) hI dX1_wordOfKind_57 (by rw [hk1])
  · refine tI (show nI k = nI 6 from by rw [hk1]) ?_
    refine lv_tableOut (tgt := 58) hx hy dX1_wordOfKind_1 (by decide) (by decide) ?_
    refine sL F hI (i := 6) (tx := "") (by decide) rfl rfl dX1_wordOfKind_58 ?_
    exact rQ hQ F (v := ()) hI dX1_wordOfKind_60 (by rw [hk1])
set_option maxHeartbeats 400000 in
set_option maxRecDepth 100000 in
theorem kX1_takeWord (l : Launch) (E : EV) (u : SS) {z : Tx} {a : Nat} (hT : TxC u.1 z) (hp : u.1 0 4 = nI a) (ha : a ≤ z.1) (i : Nat) (hi : i < 7) : CT l yX1_takeWord cX1_takeWord 3 (some .boolean) (Rm 5 106) [.ref (eA E 3), .ref (eS E (10 + i))] E u (Q_i E (fun r c => r = (if mt z a i = lnW i then 1 else 0) ∧ c = up u.1 0 4 (nI (a + mt z a i))) (fun (c : CF) => (c, u.2))) := by
  refine mstart RX1 (by decide +kernel) rfl (Nat.le_of_ble_eq_true rfl) ?_
  intro p e s m args below meth co ls Q hQ F hI hl
  have hx := F.1
  have hy := F.2.1
  have hl : lv_has ls 3 [(0, .ref (eA E 3)), (1, .ref (eS E (10 + i)))] := hl
  have hT2 := hT.2.1
  have hl6 := lnW_pos i hi
  refine lv_iconst (v := nI 0) hx hy dX1_takeWord_0 (by decide) ?_
  refine lv_istore_n (lv' := [(2, .int (nI 0)), (0, .ref (eA E 3)), (1, .ref (eS E (10 + i)))]) hx hy dX1_takeWord_1 rfl hl (by decide) rfl (fun ls hl => ?_)
  have lp1 : ∀ (fu : Nat) (j : Nat) (c : CF), (j ≤ lnW i) → (lnW i - j < fu) → (mt z a i = mtc z a i j (lnW i - j)) → (c = up u.1 0 4 (nI (a + j))) → (a + j ≤ z.1) →  ∀ (H : Heap) (locs : List Loc) (ls : Array Slot), Iv E s H locs ((c, u.2)) → lv_has ls 3 [(2, .int (nI j)), (0, .ref (eA E 3)), (1, .ref (eS E (10 + i)))] → W p l e (Rm 5 106) s m args below meth co H locs 0 0 Q (F0 m 2 ls []) := by
    intro fu
    induction fu with
    | zero => intro j c hj hf hM hW hjz; exact absurd hf (Nat.not_lt_zero _)
    | succ fu ih =>
      intro j c hj hf hM hW hjz H locs ls hI hl
      have hTc : TxC c z := by rw [hW]; exact hT.up (by decide) (by decide)
      have hqc : c 0 4 = nI (a + j) := by rw [hW]; exact up_s _ _ _ _
      have ih_2 := ih
      refine lv_iload_n hx hy dX1_takeWord_2 rfl (lv_at hl 0 rfl) ?_
      refine lv_aload_n hx hy dX1_takeWord_3 rfl (lv_at hl 2 rfl) ?_
      refine zI hI (xV F hI hl (kJ0_length_8abf5 l E ((c, u.2)) i hi) M_X1_100 (sR F hI (i := i) hi) rfl ⟨Nat.le_of_ble_eq_true rfl, Nat.le_of_ble_eq_true rfl⟩ ⟨Nat.zero_le _, Nat.zero_le _⟩ rfl (Nat.le_of_ble_eq_true rfl) dX1_takeWord_4) (fun r3 v4 H locs hI hp2 => ?_)
      subst hp2
      refine lv_icmp_ge (tgt := 30) hx hy dX1_takeWord_7 (by decide) (fun h5 => ?_) (fun h5 => ?_)
      · have h5 : lnW i ≤ j := (nI_leI (a := lnW i) (b := j) (by omega) (by omega)).mp h5
        refine lv_iconst (v := nI 1) hx hy dX1_takeWord_30 (by decide) ?_
        exact rZ hQ F (v := c) rfl hI dX1_takeWord_31 (by have e8 : j = lnW i := (by omega); have e9 : mt z a i = j := hM.trans (by rw [e8, Nat.sub_self]; rfl); exact ⟨by rw [e9, if_pos e8]; rfl, by rw [e9]; exact hW⟩)
      · have h5 : j < lnW i := Nat.lt_of_not_le (fun q9 => h5 ((nI_leI (a := lnW i) (b := j) (by omega) (by omega)).mpr q9))
        refine lv_aload_n hx hy dX1_takeWord_10 rfl (lv_at hl 1 rfl) ?_
        refine lv_aload_n hx hy dX1_takeWord_11 rfl (lv_at hl 2 rfl) ?_
        refine lv_iload_n hx hy dX1_takeWord_12 rfl (lv_at hl 0 rfl) ?_
        refine zI hI (xV F hI hl (kJ0_charAt_5068e l E ((c, u.2)) i hi j (by omega)) M_X1_73 (sR F hI (i := i) hi) rfl ⟨Nat.le_of_ble_eq_true rfl, Nat.le_of_ble_eq_true rfl⟩ ⟨Nat.zero_le _, Nat.zero_le _⟩ rfl (Nat.le_of_ble_eq_true rfl) dX1_takeWord_13) (fun r7 v8 H locs hI hp6 => ?_)
        subst hp6
        refine zI hI (xV F hI hl (kX1_take l E ((c, u.2)) hTc hqc (by omega) (chW i j) (by have := chW_lt i hi j (by omega); omega)) M_X1_29 (rX1 F hI) rfl ⟨Nat.le_of_ble_eq_true rfl, Nat.le_of_ble_eq_true rfl⟩ ⟨Nat.zero_le _, Nat.zero_le _⟩ rfl (Nat.le_of_ble_eq_true rfl) dX1_takeWord_16) (fun r10 v11 H locs hI hp9 => ?_)
        by_cases hb12 : a + j < z.1 ∧ z.2 (a + j) = chW i j
        · rw [if_pos hb12] at hp9
          obtain ⟨rfl, hw13⟩ := hp9
          have hW14 : v11 = up u.1 0 4 (nI (a + j + 1)) := by rw [hw13, hW, up_up]
          have hT15 : TxC v11 z := by rw [hW14]; exact hT.up (by decide) (by decide)
          have hq16 : v11 0 4 = nI (a + j + 1) := by rw [hW14]; exact up_s _ _ _ _
          refine lv_if_ne (tgt := 24) hx hy dX1_takeWord_19 (by decide) (fun _ => ?_) (fun q => absurd q (by decide))
          refine lv_iinc (v := nI (j + 1)) (lv' := [(2, .int (nI (j + 1))), (0, .ref (eA E 3)), (1, .ref (eS E (10 + i)))]) hx hy dX1_takeWord_24 hl (k := 0) rfl (nI_add (j) 1) (by decide) rfl (fun ls hl => ?_)
          refine lv_goto (tgt := 2) hx hy dX1_takeWord_27 (by decide) ?_
          exact ih_2 (j + 1) v11 (by omega) (by omega) (hM.trans (mtc_step (by omega) hb12)) hW14 (by omega) _ _ _ hI (lv_sub hl [0, 1, 2] rfl)
        · rw [if_neg hb12] at hp9
          obtain ⟨rfl, hw17⟩ := hp9
          have hI : Iv E s H locs (c, u.2) := by rw [hw17] at hI; exact hI
          refine lv_if_ne (tgt := 24) hx hy dX1_takeWord_19 (by decide) (fun q => absurd q (by decide)) (fun _ => ?_)
          refine lv_iconst (v := nI 0) hx hy dX1_takeWord_22 (by decide) ?_
          exact rZ hQ F (v := c) rfl hI dX1_takeWord_23 (by have e9 : mt z a i = j := hM.trans (mtc_stop (by omega) hb12); exact ⟨by rw [e9, if_neg (by omega)]; rfl, by rw [e9]; exact hW⟩)
  exact lp1 (lnW i + 1) 0 u.1 (Nat.zero_le _) (by omega) rfl (up_self _ _ _ _ (by rw [hp]; rfl)).symm ha _ _ _ hI (lv_sub hl [0, 1, 2] rfl)
set_option maxHeartbeats 400000 in
set_option maxRecDepth 100000 in
theorem kX1_kindHere (l : Launch) (E : EV) (u : SS) {z : Tx} {a : Nat} (hT : TxC u.1 z) (hp : u.1 0 4 = nI a) (ha : a ≤ z.1) : CT l yX1_kindHere cX1_kindHere 3 (some .int) (Rm 5 106) [.ref (eA E 3)] E u (Q_i E (fun r _ => r = kdI (kd z a)) (fun (_ : Unit) => u)) := by
  refine mstart RX1 (by decide +kernel) rfl (Nat.le_of_ble_eq_true rfl) ?_
  intro p e s m args below meth co ls Q hQ F hI hl
  have hx := F.1
  have hy := F.2.1
  have hl : lv_has ls 3 [(0, .ref (eA E 3))] := hl
  have hT2 := hT.2.1
  refine lv_iconst (v := nI 0) hx hy dX1_kindHere_0 (by decide) ?_
  refine lv_istore_n (lv' := [(1, .int (nI 0)), (0, .ref (eA E 3))]) hx hy dX1_kindHere_1 rfl hl (by decide) rfl (fun ls hl => ?_)
  have lp1 : ∀ (fu : Nat) (k : Nat), (k ≤ 7) → (7 - k < fu) → (kd z a = kdF z a k (7 - k)) →  ∀ (H : Heap) (locs : List Loc) (ls : Array Slot), Iv E s H locs (u) → lv_has ls 3 [(1, .int (nI k)), (0, .ref (eA E 3))] → W p l e (Rm 5 106) s m args below meth co H locs 0 0 Q (F0 m 2 ls []) := by
    intro fu
    induction fu with
    | zero => intro k hk hf hM; exact absurd hf (Nat.not_lt_zero _)
    | succ fu ih =>
      intro k hk hf hM H locs ls hI hl
      have ih_2 := ih
      refine lv_iload_n hx hy dX1_kindHere_2 rfl (lv_at hl 0 rfl) ?_
      refine lv_bipush (v := nI 7) hx hy dX1_kindHere_3 (by decide) ?_
      refine lv_icmp_ge (tgt := 40) hx hy dX1_kindHere_5 (by decide) (fun h2 => ?_) (fun h2 => ?_)
      · have h2 : 7 ≤ k := (nI_leI (a := 7) (b := k) (by omega) (by omega)).mp h2
        refine lv_iconst (v := (-1)) hx hy dX1_kindHere_40 (by decide) ?_
        exact rI hQ F (v := ()) hI dX1_kindHere_41 (by rw [hM, show k = 7 from by omega]; rfl)
      · have h2 : k < 7 := Nat.lt_of_not_le (fun q9 => h2 ((nI_leI (a := 7) (b := k) (by omega) (by omega)).mpr q9))
        refine lv_iload_n hx hy dX1_kindHere_8 rfl (lv_at hl 0 rfl) ?_
        refine zQ hI (xS F hI hl (kX1_wordOfKind l E (u) k (by omega)) M_X1_37 rfl ⟨Nat.le_of_ble_eq_true rfl, Nat.le_of_ble_eq_true rfl⟩ ⟨Nat.zero_le _, Nat.zero_le _⟩ rfl (Nat.le_of_ble_eq_true rfl) dX1_kindHere_9) (fun r4 v5 H locs hI hp3 => ?_)
        subst hp3
        refine tV (show va_rf (some (eS E (10 + k))) = .ref (eS E (10 + k)) from rfl) ?_
        refine lv_astore_n (lv' := [(2, .ref (eS E (10 + k))), (1, .int (nI k)), (0, .ref (eA E 3))]) hx hy dX1_kindHere_12 rfl hl (by decide) rfl (fun ls hl => ?_)
        refine lv_aload_n hx hy dX1_kindHere_13 rfl (lv_at hl 0 rfl) ?_
        refine zI hI (xV F hI hl (kJ0_isEmpty_aae02 l E (u) k (by omega)) M_X1_67 (sR F hI (i := k) (by omega)) rfl ⟨Nat.le_of_ble_eq_true rfl, Nat.le_of_ble_eq_true rfl⟩ ⟨Nat.zero_le _, Nat.zero_le _⟩ rfl (Nat.le_of_ble_eq_true rfl) dX1_kindHere_14) (fun r7 v8 H locs hI hp6 => ?_)
        subst hp6
        refine lv_if_ne (tgt := 34) hx hy dX1_kindHere_17 (by decide) (fun q => absurd q (by decide)) (fun _ => ?_)
        refine lv_aload_n hx hy dX1_kindHere_20 rfl (lv_at hl 2 rfl) ?_
        refine lv_aload_n hx hy dX1_kindHere_21 rfl (lv_at hl 0 rfl) ?_
        refine lv_iconst (v := nI 0) hx hy dX1_kindHere_22 (by decide) ?_
        refine zI hI (xV F hI hl (kJ0_charAt_5068e l E (u) k (by omega) 0 (by have := (lnW_pos k (by omega)).1; omega)) M_X1_73 (sR F hI (i := k) (by omega)) rfl ⟨Nat.le_of_ble_eq_true rfl, Nat.le_of_ble_eq_true rfl⟩ ⟨Nat.zero_le _, Nat.zero_le _⟩ rfl (Nat.le_of_ble_eq_true rfl) dX1_kindHere_23) (fun r10 v11 H locs hI hp9 => ?_)
        subst hp9
        refine zI hI (xV F hI hl (kX1_isHere l E (u) hT hp (by omega) (chW k 0) (by have := chW_lt k (by omega) 0 (by have := (lnW_pos k (by omega)).1; omega); omega)) M_X1_77 (rX1 F hI) rfl ⟨Nat.le_of_ble_eq_true rfl, Nat.le_of_ble_eq_true rfl⟩ ⟨Nat.zero_le _, Nat.zero_le _⟩ rfl (Nat.le_of_ble_eq_true rfl) dX1_kindHere_26) (fun r13 v14 H locs hI hp12 => ?_)
        by_cases hb15 : a < z.1 ∧ z.2 a = chW k 0
        · rw [if_pos hb15] at hp12
          subst hp12
          refine lv_if_eq (tgt := 34) hx hy dX1_kindHere_29 (by decide) (fun q => absurd q (by decide)) (fun _ => ?_)
          refine lv_iload_n hx hy dX1_kindHere_32 rfl (lv_at hl 1 rfl) ?_
          exact rI hQ F (v := ()) hI dX1_kindHere_33 (by rw [hM, kdF_hit (by omega) hb15]; rfl)
        · rw [if_neg hb15] at hp12
          subst hp12
          refine lv_if_eq (tgt := 34) hx hy dX1_kindHere_29 (by decide) (fun _ => ?_) (fun q => absurd q (by decide))
          refine lv_iinc (v := nI (k + 1)) (lv' := [(1, .int (nI (k + 1))), (2, .ref (eS E (10 + k))), (0, .ref (eA E 3))]) hx hy dX1_kindHere_34 hl (k := 1) rfl (nI_add (k) 1) (by decide) rfl (fun ls hl => ?_)
          refine lv_goto (tgt := 2) hx hy dX1_kindHere_37 (by decide) ?_
          exact ih_2 (k + 1) (by omega) (by omega) (hM.trans (kdF_miss (by omega) hb15)) _ _ _ hI (lv_sub hl [0, 2] rfl)
  exact lp1 8 0 (by omega) (by omega) rfl _ _ _ hI (lv_sub hl [0, 1] rfl)
set_option maxHeartbeats 400000 in
set_option maxRecDepth 100000 in
theorem kX1_leastNumber (l : Launch) (E : EV) (u : SS) (k w : Nat) (hk : k < 7) (hw : w ≤ 4) : CT l yX1_leastNumber cX1_leastNumber 3 (some .int) (Rm 0 0) [.int (nI k), .int (nI w)] E u (Q_i E (fun r _ => r = nI (loK k w)) (fun (_ : Unit) => u)) := by
  refine mstart RX1 (by decide +kernel) rfl (Nat.le_of_ble_eq_true rfl) ?_
  intro p e s m args below meth co ls Q hQ F hI hl
  have hx := F.1
  have hy := F.2.1
  have hl : lv_has ls 3 [(0, .int (nI k)), (1, .int (nI w))] := hl
  refine lv_iload_n hx hy dX1_leastNumber_0 rfl (lv_at hl 1 rfl) ?_
  refine lv_iconst (v := nI 2) hx hy dX1_leastNumber_1 (by decide) ?_
  refine lv_icmp_ne (tgt := 19) hx hy dX1_leastNumber_2 (by decide) (fun h1 => ?_) (fun h1 => ?_)
  · have h1 : w ≠ 2 := fun q9 => h1 ((nI_eq (a := w) (b := 2) (by omega) (by omega)).mpr q9)
    refine lv_iconst (v := nI 0) hx hy dX1_leastNumber_19 (by decide) ?_
    refine lv_istore_n (lv' := [(2, .int (nI 0)), (0, .int (nI k)), (1, .int (nI w))]) hx hy dX1_leastNumber_20 rfl hl (by decide) rfl (fun ls hl => ?_)
    refine lv_iload_n hx hy dX1_leastNumber_21 rfl (lv_at hl 0 rfl) ?_
    refine lv_if_eq (tgt := 29) hx hy dX1_leastNumber_22 (by decide) (fun _ => ?_) (fun q => absurd q (by decide))
    refine lv_iconst (v := nI 0) hx hy dX1_leastNumber_29 (by decide) ?_
    exact rI hQ F (v := ()) hI dX1_leastNumber_30 (by unfold loK; rw [if_neg (by omega)])
  · have h1 : w = 2 := (nI_eq (a := w) (b := 2) (by omega) (by omega)).mp h1
    refine lv_iload_n hx hy dX1_leastNumber_5 rfl (lv_at hl 0 rfl) ?_
    refine lv_if_eq (tgt := 15) hx hy dX1_leastNumber_6 (by decide) (fun h2 => ?_) (fun h2 => ?_)
    · have h2 : k = 0 := (nI_eq (a := k) (b := 0) (by omega) (by omega)).mp h2
      refine lv_iconst (v := nI 1) hx hy dX1_leastNumber_15 (by decide) ?_
      refine lv_goto (tgt := 20) hx hy dX1_leastNumber_16 (by decide) ?_
      refine lv_istore_n (lv' := [(2, .int (nI 1)), (0, .int (nI k)), (1, .int (nI w))]) hx hy dX1_leastNumber_20 rfl hl (by decide) rfl (fun ls hl => ?_)
      refine lv_iload_n hx hy dX1_leastNumber_21 rfl (lv_at hl 0 rfl) ?_
      refine lv_if_eq (tgt := 29) hx hy dX1_leastNumber_22 (by decide) (fun q => absurd q (by decide)) (fun _ => ?_)
      refine lv_iconst (v := nI 1) hx hy dX1_leastNumber_25 (by decide) ?_
      refine lv_goto (tgt := 30) hx hy dX1_leastNumber_26 (by decide) ?_
      exact rI hQ F (v := ()) hI dX1_leastNumber_30 (by unfold loK; rw [if_pos (by omega)])
    · have h2 : k ≠ 0 := fun q9 => h2 ((nI_eq (a := k) (b := 0) (by omega) (by omega)).mpr q9)
      refine lv_iload_n hx hy dX1_leastNumber_9 rfl (lv_at hl 0 rfl) ?_
      refine lv_bipush (v := nI 6) hx hy dX1_leastNumber_10 (by decide) ?_
      refine lv_icmp_ne (tgt := 19) hx hy dX1_leastNumber_12 (by decide) (fun h3 => ?_) (fun h3 => ?_)
      · have h3 : k ≠ 6 := fun q9 => h3 ((nI_eq (a := k) (b := 6) (by omega) (by omega)).mpr q9)
        refine lv_iconst (v := nI 0) hx hy dX1_leastNumber_19 (by decide) ?_
        refine lv_istore_n (lv' := [(2, .int (nI 0)), (0, .int (nI k)), (1, .int (nI w))]) hx hy dX1_leastNumber_20 rfl hl (by decide) rfl (fun ls hl => ?_)
        refine lv_iload_n hx hy dX1_leastNumber_21 rfl (lv_at hl 0 rfl) ?_
        refine lv_if_eq (tgt := 29) hx hy dX1_leastNumber_22 (by decide) (fun _ => ?_) (fun q => absurd q (by decide))
        refine lv_iconst (v := nI 0) hx hy dX1_leastNumber_29 (by decide) ?_
        exact rI hQ F (v := ()) hI dX1_leastNumber_30 (by unfold loK; rw [if_neg (by omega)])
      · have h3 : k = 6 := (nI_eq (a := k) (b := 6) (by omega) (by omega)).mp h3
        refine lv_iconst (v := nI 1) hx hy dX1_leastNumber_15 (by decide) ?_
        refine lv_goto (tgt := 20) hx hy dX1_leastNumber_16 (by decide) ?_
        refine lv_istore_n (lv' := [(2, .int (nI 1)), (0, .int (nI k)), (1, .int (nI w))]) hx hy dX1_leastNumber_20 rfl hl (by decide) rfl (fun ls hl => ?_)
        refine lv_iload_n hx hy dX1_leastNumber_21 rfl (lv_at hl 0 rfl) ?_
        refine lv_if_eq (tgt := 29) hx hy dX1_leastNumber_22 (by decide) (fun q => absurd q (by decide)) (fun _ => ?_)
        refine lv_iconst (v := nI 1) hx hy dX1_leastNumber_25 (by decide) ?_
        refine lv_goto (tgt := 30) hx hy dX1_leastNumber_26 (by decide) ?_
        exact rI hQ F (v := ()) hI dX1_leastNumber_30 (by unfold loK; rw [if_pos (by omega)])
set_option maxHeartbeats 400000 in
set_option maxRecDepth 100000 in
theorem kX1_mostNumber (l : Launch) (E : EV) (u : SS) (k w : Nat) (hk : k < 7) (hw : w ≤ 4) : CT l yX1_mostNumber cX1_mostNumber 2 (some .int) (Rm 2 41) [.int (nI k), .int (nI w)] E u (Q_i E (fun r _ => r = nI (hiK k w)) (fun (_ : Unit) => u)) := by
  refine mstart RX1 (by decide +kernel) rfl (Nat.le_of_ble_eq_true rfl) ?_
  intro p e s m args below meth co ls Q hQ F hI hl
  have hx := F.1
  have hy := F.2.1
  have hl : lv_has ls 2 [(0, .int (nI k)), (1, .int (nI w))] := hl
  have h3 := npK_le k hk
  refine lv_iload_n hx hy dX1_mostNumber_0 rfl (lv_at hl 1 rfl) ?_
  refine lv_iload_n hx hy dX1_mostNumber_1 rfl (lv_at hl 0 rfl) ?_
  refine zI hI (xS F hI hl (kX5_linesOfKind l E (u) k (by omega)) M_X1_94 rfl ⟨Nat.le_of_ble_eq_true rfl, Nat.le_of_ble_eq_true rfl⟩ ⟨Nat.zero_le _, Nat.zero_le _⟩ rfl (Nat.le_of_ble_eq_true rfl) dX1_mostNumber_2) (fun r2 v3 H locs hI hp1 => ?_)
  subst hp1
  refine tI (tbl_nl k hk) ?_
  refine lv_icmp_gt (tgt := 11) hx hy dX1_mostNumber_5 (by decide) (fun h4 => ?_) (fun h4 => ?_)
  · have h4 : nlK k < w := (nI_ltI (a := nlK k) (b := w) (by omega) (by omega)).mp h4
    refine lv_iload_n hx hy dX1_mostNumber_11 rfl (lv_at hl 0 rfl) ?_
    refine lv_bipush (v := nI 6) hx hy dX1_mostNumber_12 (by decide) ?_
    refine lv_icmp_ne (tgt := 20) hx hy dX1_mostNumber_14 (by decide) (fun h5 => ?_) (fun h5 => ?_)
    · have h5 : k ≠ 6 := fun q9 => h5 ((nI_eq (a := k) (b := 6) (by omega) (by omega)).mpr q9)
      refine lv_iload_n hx hy dX1_mostNumber_20 rfl (lv_at hl 1 rfl) ?_
      refine lv_iconst (v := nI 1) hx hy dX1_mostNumber_21 (by decide) ?_
      refine lv_icmp_ne (tgt := 31) hx hy dX1_mostNumber_22 (by decide) (fun h6 => ?_) (fun h6 => ?_)
      · have h6 : w ≠ 1 := fun q9 => h6 ((nI_eq (a := w) (b := 1) (by omega) (by omega)).mpr q9)
        refine lv_sipush (v := nI 255) hx hy dX1_mostNumber_31 (by decide) ?_
        exact rI hQ F (v := ()) hI dX1_mostNumber_34 (by unfold hiK; rw [if_neg (by omega), if_neg (by omega), if_neg (by omega)])
      · have h6 : w = 1 := (nI_eq (a := w) (b := 1) (by omega) (by omega)).mp h6
        refine lv_sipush (v := nI 256) hx hy dX1_mostNumber_25 (by decide) ?_
        refine lv_goto (tgt := 34) hx hy dX1_mostNumber_28 (by decide) ?_
        exact rI hQ F (v := ()) hI dX1_mostNumber_34 (by unfold hiK; rw [if_neg (by omega), if_neg (by omega), if_pos (by omega)])
    · have h5 : k = 6 := (nI_eq (a := k) (b := 6) (by omega) (by omega)).mp h5
      refine lv_bipush (v := nI 60) hx hy dX1_mostNumber_17 (by decide) ?_
      exact rI hQ F (v := ()) hI dX1_mostNumber_19 (by unfold hiK; rw [if_neg (by omega), if_pos (by omega)])
  · have h4 : w ≤ nlK k := Nat.le_of_not_lt (fun q9 => h4 ((nI_ltI (a := nlK k) (b := w) (by omega) (by omega)).mpr q9))
    refine lv_bipush (v := nI 15) hx hy dX1_mostNumber_8 (by decide) ?_
    exact rI hQ F (v := ()) hI dX1_mostNumber_10 (by unfold hiK; rw [if_pos (by omega)])
set_option maxHeartbeats 400000 in
set_option maxRecDepth 100000 in
theorem kX1_digitHere (l : Launch) (E : EV) (u : SS) {z : Tx} {a : Nat} (hT : TxC u.1 z) (hp : u.1 0 4 = nI a) (ha : a ≤ z.1) : CT l yX1_digitHere cX1_digitHere 2 (some .int) (Rm 0 0) [.ref (eA E 3)] E u (Q_i E (fun r _ => r = digI z a) (fun (_ : Unit) => u)) := by
  refine mstart RX1 (by decide +kernel) rfl (Nat.le_of_ble_eq_true rfl) ?_
  intro p e s m args below meth co ls Q hQ F hI hl
  have hx := F.1
  have hy := F.2.1
  have hl : lv_has ls 2 [(0, .ref (eA E 3))] := hl
  have hT2 := hT.2.1
  refine lv_aload_n hx hy dX1_digitHere_0 rfl (lv_at hl 0 rfl) ?_
  refine gX1_place F hI L_X1_19 dX1_digitHere_1 ?_
  refine tI hp ?_
  refine lv_if_lt (tgt := 30) hx hy dX1_digitHere_4 (by decide) (fun h1 => ?_) (fun h1 => ?_)
  · have h1 : a < 0 := (nI_ltI (a := a) (b := 0) (by omega) (by omega)).mp h1
    exact absurd h1 (by omega)
  · have h1 : 0 ≤ a := Nat.le_of_not_lt (fun q9 => h1 ((nI_ltI (a := a) (b := 0) (by omega) (by omega)).mpr q9))
    refine lv_aload_n hx hy dX1_digitHere_7 rfl (lv_at hl 0 rfl) ?_
    refine gX1_place F hI L_X1_19 dX1_digitHere_8 ?_
    refine tI hp ?_
    refine lv_aload_n hx hy dX1_digitHere_11 rfl (lv_at hl 0 rfl) ?_
    refine gX1_size F hI L_X1_15 dX1_digitHere_12 ?_
    refine tI hT.1 ?_
    refine lv_icmp_ge (tgt := 30) hx hy dX1_digitHere_15 (by decide) (fun h2 => ?_) (fun h2 => ?_)
    · have h2 : z.1 ≤ a := (nI_leI (a := z.1) (b := a) (by omega) (by omega)).mp h2
      refine lv_iconst (v := (-1)) hx hy dX1_digitHere_30 (by decide) ?_
      exact rI hQ F (v := ()) hI dX1_digitHere_31 (if_neg (fun q9 => absurd q9.1 (by omega))).symm
    · have h2 : a < z.1 := Nat.lt_of_not_le (fun q9 => h2 ((nI_leI (a := z.1) (b := a) (by omega) (by omega)).mpr q9))
      refine lv_aload_n hx hy dX1_digitHere_18 rfl (lv_at hl 0 rfl) ?_
      refine gX1_place F hI L_X1_19 dX1_digitHere_19 ?_
      refine tI hp ?_
      refine lv_aload_n hx hy dX1_digitHere_22 rfl (lv_at hl 0 rfl) ?_
      refine gX1_characters F hI L_X1_9 dX1_digitHere_23 ?_
      refine aCn F hI dX1_digitHere_26 ?_
      refine lv_icmp_lt (tgt := 32) hx hy dX1_digitHere_27 (by decide) (fun h3 => ?_) (fun h3 => ?_)
      · have h3 : a < 80 := (nI_ltI (a := a) (b := 80) (by omega) (by omega)).mp h3
        refine lv_aload_n hx hy dX1_digitHere_32 rfl (lv_at hl 0 rfl) ?_
        refine gX1_characters F hI L_X1_9 dX1_digitHere_33 ?_
        refine lv_aload_n hx hy dX1_digitHere_36 rfl (lv_at hl 0 rfl) ?_
        refine gX1_place F hI L_X1_19 dX1_digitHere_37 ?_
        refine tI hp ?_
        refine aCl F hI (i := a) (by omega) dX1_digitHere_40 ?_
        refine tI (hT.2.2 a (by omega)).1 ?_
        refine lv_istore_n (lv' := [(1, .int (nI (z.2 a))), (0, .ref (eA E 3))]) hx hy dX1_digitHere_41 rfl hl (by decide) rfl (fun ls hl => ?_)
        refine lv_iload_n hx hy dX1_digitHere_42 rfl (lv_at hl 0 rfl) ?_
        refine lv_bipush (v := nI 48) hx hy dX1_digitHere_43 (by decide) ?_
        refine lv_icmp_lt (tgt := 61) hx hy dX1_digitHere_45 (by decide) (fun h4 => ?_) (fun h4 => ?_)
        · have h4 : z.2 a < 48 := (nI_ltI (a := z.2 a) (b := 48) (by have := (hT.2.2 a (by omega)).2; omega) (by omega)).mp h4
          refine lv_iconst (v := (-1)) hx hy dX1_digitHere_61 (by decide) ?_
          exact rI hQ F (v := ()) hI dX1_digitHere_62 (if_neg (fun q9 => by omega)).symm
        · have h4 : 48 ≤ z.2 a := Nat.le_of_not_lt (fun q9 => h4 ((nI_ltI (a := z.2 a) (b := 48) (by have := (hT.2.2 a (by omega)).2; omega) (by omega)).mpr q9))
          refine lv_iload_n hx hy dX1_digitHere_48 rfl (lv_at hl 0 rfl) ?_
          refine lv_bipush (v := nI 57) hx hy dX1_digitHere_49 (by decide) ?_
          refine lv_icmp_gt (tgt := 61) hx hy dX1_digitHere_51 (by decide) (fun h5 => ?_) (fun h5 => ?_)
          · have h5 : 57 < z.2 a := (nI_ltI (a := 57) (b := z.2 a) (by omega) (by have := (hT.2.2 a (by omega)).2; omega)).mp h5
            refine lv_iconst (v := (-1)) hx hy dX1_digitHere_61 (by decide) ?_
            exact rI hQ F (v := ()) hI dX1_digitHere_62 (if_neg (fun q9 => by omega)).symm
          · have h5 : z.2 a ≤ 57 := Nat.le_of_not_lt (fun q9 => h5 ((nI_ltI (a := 57) (b := z.2 a) (by omega) (by have := (hT.2.2 a (by omega)).2; omega)).mpr q9))
            refine lv_iload_n hx hy dX1_digitHere_54 rfl (lv_at hl 0 rfl) ?_
            refine lv_bipush (v := nI 48) hx hy dX1_digitHere_55 (by decide) ?_
            refine lv_isub hx hy dX1_digitHere_57 ?_
            refine tI (pk_sub (a := z.2 a) (b := 48) (by omega)) ?_
            refine lv_goto (tgt := 62) hx hy dX1_digitHere_58 (by decide) ?_
            exact rI hQ F (v := ()) hI dX1_digitHere_62 (if_pos ⟨by omega, by omega, by omega⟩).symm
      · have h3 : 80 ≤ a := Nat.le_of_not_lt (fun q9 => h3 ((nI_ltI (a := a) (b := 80) (by omega) (by omega)).mpr q9))
        exact absurd h3 (by omega)
set_option maxHeartbeats 400000 in
set_option maxRecDepth 100000 in
theorem kX1_readNumber (l : Launch) (E : EV) (u : SS) {z : Tx} {a : Nat} (hT : TxC u.1 z) (hp : u.1 0 4 = nI a) (ha : a ≤ z.1) (lo mo : Nat) (hlo : lo ≤ 1) (h9 : 9 ≤ mo) (h256 : mo ≤ 256) : CT l yX1_readNumber cX1_readNumber 5 (some .int) (Rm 1 21) [.ref (eA E 3), .int (nI lo), .int (nI mo)] E u (Q_i E (fun r c => r = kdI (dg z lo mo a).1 ∧ c = up u.1 0 4 (nI (dg z lo mo a).2)) (fun (c : CF) => (c, u.2))) := by
  refine mstart RX1 (by decide +kernel) rfl (Nat.le_of_ble_eq_true rfl) ?_
  intro p e s m args below meth co ls Q hQ F hI hl
  have hx := F.1
  have hy := F.2.1
  have hl : lv_has ls 5 [(0, .ref (eA E 3)), (1, .int (nI lo)), (2, .int (nI mo))] := hl
  have hT2 := hT.2.1
  refine lv_aload_n hx hy dX1_readNumber_0 rfl (lv_at hl 0 rfl) ?_
  refine zI hI (xV F hI hl (kX1_digitHere l E (u) hT hp (by omega)) M_X1_97 (rX1 F hI) rfl ⟨Nat.le_of_ble_eq_true rfl, Nat.le_of_ble_eq_true rfl⟩ ⟨Nat.zero_le _, Nat.zero_le _⟩ rfl (Nat.le_of_ble_eq_true rfl) dX1_readNumber_1) (fun r2 v3 H locs hI hp1 => ?_)
  by_cases hd4 : a < z.1 ∧ 48 ≤ z.2 a ∧ z.2 a ≤ 57
  · have hp1 : r2 = nI (z.2 a - 48) := hp1.trans (if_pos hd4)
    subst hp1
    refine lv_istore_n (lv' := [(3, .int (nI (z.2 a - 48))), (0, .ref (eA E 3)), (1, .int (nI lo)), (2, .int (nI mo))]) hx hy dX1_readNumber_4 rfl hl (by decide) rfl (fun ls hl => ?_)
    refine lv_iload_n hx hy dX1_readNumber_5 rfl (lv_at hl 0 rfl) ?_
    refine lv_iload_n hx hy dX1_readNumber_6 rfl (lv_at hl 2 rfl) ?_
    refine lv_icmp_ge (tgt := 12) hx hy dX1_readNumber_7 (by decide) (fun h5 => ?_) (fun h5 => ?_)
    · have h5 : lo ≤ z.2 a - 48 := (nI_leI (a := lo) (b := z.2 a - 48) (by omega) (by omega)).mp h5
      have hD : dg z lo mo a = (some (dl z mo (z.1 - (a + 1)) (z.2 a - 48) (a + 1)).1, (dl z mo (z.1 - (a + 1)) (z.2 a - 48) (a + 1)).2) := if_pos ⟨hd4.1, by omega, by omega⟩
      refine lv_aload_n hx hy dX1_readNumber_12 rfl (lv_at hl 1 rfl) ?_
      refine lv_dup hx hy dX1_readNumber_13 rfl ?_
      refine gX1_place F hI L_X1_19 dX1_readNumber_14 ?_
      refine tI hp ?_
      refine lv_iconst (v := nI 1) hx hy dX1_readNumber_17 (by decide) ?_
      refine lv_iadd hx hy dX1_readNumber_18 ?_
      refine tI (nI_add (a) (1)) ?_
      refine pX1_place F hI L_X1_19 dX1_readNumber_19 (fun H locs hI => ?_)
      obtain ⟨c6, ec6⟩ : ∃ z9 : CF, z9 = up u.1 0 4 (nI (a + 1)) := ⟨_, rfl⟩
      have hI : Iv E s H locs (c6, u.2) := by rw [ec6]; exact hI
      have lp7 : ∀ (fu : Nat) (v b : Nat) (c : CF), (v ≤ mo) → (b ≤ z.1) → (z.1 - b < fu) → (c = up u.1 0 4 (nI b)) → (dl z mo (z.1 - (a + 1)) (z.2 a - 48) (a + 1) = dl z mo (z.1 - b) v b) →  ∀ (H : Heap) (locs : List Loc) (ls : Array Slot), Iv E s H locs ((c, u.2)) → lv_has ls 5 [(3, .int (nI v)), (0, .ref (eA E 3)), (2, .int (nI mo))] → W p l e (Rm 1 21) s m args below meth co H locs 0 0 Q (F0 m 22 ls []) := by
        intro fu
        induction fu with
        | zero => intro v b c hv hb hf hW hM; exact absurd hf (Nat.not_lt_zero _)
        | succ fu ih =>
          intro v b c hv hb hf hW hM H locs ls hI hl
          have hTc : TxC c z := by rw [hW]; exact hT.up (by decide) (by decide)
          have hqc : c 0 4 = nI b := by rw [hW]; exact up_s _ _ _ _
          have ih_22 := ih
          refine lv_iload_n hx hy dX1_readNumber_22 rfl (lv_at hl 0 rfl) ?_
          refine lv_if_le (tgt := 83) hx hy dX1_readNumber_23 (by decide) (fun h8 => ?_) (fun h8 => ?_)
          · have h8 : v ≤ 0 := (nI_leI (a := v) (b := 0) (by omega) (by omega)).mp h8
            refine lv_iload_n hx hy dX1_readNumber_83 rfl (lv_at hl 0 rfl) ?_
            exact rI hQ F (v := c) hI dX1_readNumber_84 (by rw [hD, hM, dl_stop _ (by omega)]; exact ⟨rfl, hW⟩)
          · have h8 : 0 < v := Nat.lt_of_not_le (fun q9 => h8 ((nI_leI (a := v) (b := 0) (by omega) (by omega)).mpr q9))
            refine lv_aload_n hx hy dX1_readNumber_26 rfl (lv_at hl 1 rfl) ?_
            refine gX1_place F hI L_X1_19 dX1_readNumber_27 ?_
            refine tI (show _ = c 0 4 from rfl) ?_
            refine tI hqc ?_
            refine lv_aload_n hx hy dX1_readNumber_30 rfl (lv_at hl 1 rfl) ?_
            refine gX1_size F hI L_X1_15 dX1_readNumber_31 ?_
            refine tI (show _ = c 0 3 from rfl) ?_
            refine tI hTc.1 ?_
            refine lv_icmp_ge (tgt := 83) hx hy dX1_readNumber_34 (by decide) (fun h9 => ?_) (fun h9 => ?_)
            · have h9 : z.1 ≤ b := (nI_leI (a := z.1) (b := b) (by omega) (by omega)).mp h9
              refine lv_iload_n hx hy dX1_readNumber_83 rfl (lv_at hl 0 rfl) ?_
              exact rI hQ F (v := c) hI dX1_readNumber_84 (by rw [hD, hM, dl_stop _ (by omega)]; exact ⟨rfl, hW⟩)
            · have h9 : b < z.1 := Nat.lt_of_not_le (fun q9 => h9 ((nI_leI (a := z.1) (b := b) (by omega) (by omega)).mpr q9))
              refine lv_aload_n hx hy dX1_readNumber_37 rfl (lv_at hl 1 rfl) ?_
              refine zI hI (xV F hI hl (kX1_digitHere l E ((c, u.2)) hTc hqc (by omega)) M_X1_97 (rX1 F hI) rfl ⟨Nat.le_of_ble_eq_true rfl, Nat.le_of_ble_eq_true rfl⟩ ⟨Nat.zero_le _, Nat.zero_le _⟩ rfl (Nat.le_of_ble_eq_true rfl) dX1_readNumber_38) (fun r11 v12 H locs hI hp10 => ?_)
              by_cases hd13 : b < z.1 ∧ 48 ≤ z.2 b ∧ z.2 b ≤ 57
              · have hp10 : r11 = nI (z.2 b - 48) := hp10.trans (if_pos hd13)
                subst hp10
                refine lv_istore (lv' := [(4, .int (nI (z.2 b - 48))), (3, .int (nI v)), (0, .ref (eA E 3)), (2, .int (nI mo))]) hx hy dX1_readNumber_41 hl (by decide) rfl (fun ls hl => ?_)
                refine lv_iload hx hy dX1_readNumber_43 (lv_at hl 0 rfl) ?_
                refine lv_iconst (v := (-1)) hx hy dX1_readNumber_45 (by decide) ?_
                refine lv_icmp_eq (tgt := 60) hx hy dX1_readNumber_46 (by decide) (fun q => absurd q (m1_ne (by omega))) (fun h14 => ?_)
                refine lv_iload_n hx hy dX1_readNumber_49 rfl (lv_at hl 1 rfl) ?_
                refine lv_bipush (v := nI 10) hx hy dX1_readNumber_50 (by decide) ?_
                refine lv_imul hx hy dX1_readNumber_52 ?_
                refine tI (pk_mul (v) (10)) ?_
                refine lv_iload hx hy dX1_readNumber_53 (lv_at hl 0 rfl) ?_
                refine lv_iadd hx hy dX1_readNumber_55 ?_
                refine tI (nI_add (v * 10) (z.2 b - 48)) ?_
                refine lv_iload_n hx hy dX1_readNumber_56 rfl (lv_at hl 3 rfl) ?_
                refine lv_icmp_le (tgt := 62) hx hy dX1_readNumber_57 (by decide) (fun h15 => ?_) (fun h15 => ?_)
                · have h15 : v * 10 + (z.2 b - 48) ≤ mo := (nI_leI (a := v * 10 + (z.2 b - 48)) (b := mo) (by omega) (by omega)).mp h15
                  refine lv_iload_n hx hy dX1_readNumber_62 rfl (lv_at hl 1 rfl) ?_
                  refine lv_bipush (v := nI 10) hx hy dX1_readNumber_63 (by decide) ?_
                  refine lv_imul hx hy dX1_readNumber_65 ?_
                  refine tI (pk_mul (v) (10)) ?_
                  refine lv_iload hx hy dX1_readNumber_66 (lv_at hl 0 rfl) ?_
                  refine lv_iadd hx hy dX1_readNumber_68 ?_
                  refine tI (nI_add (v * 10) (z.2 b - 48)) ?_
                  refine lv_istore_n (lv' := [(3, .int (nI (v * 10 + (z.2 b - 48)))), (4, .int (nI (z.2 b - 48))), (0, .ref (eA E 3)), (2, .int (nI mo))]) hx hy dX1_readNumber_69 rfl hl (by decide) rfl (fun ls hl => ?_)
                  refine lv_aload_n hx hy dX1_readNumber_70 rfl (lv_at hl 2 rfl) ?_
                  refine lv_dup hx hy dX1_readNumber_71 rfl ?_
                  refine gX1_place F hI L_X1_19 dX1_readNumber_72 ?_
                  refine tI (show _ = c 0 4 from rfl) ?_
                  refine tI hqc ?_
                  refine lv_iconst (v := nI 1) hx hy dX1_readNumber_75 (by decide) ?_
                  refine lv_iadd hx hy dX1_readNumber_76 ?_
                  refine tI (nI_add (b) (1)) ?_
                  refine pX1_place F hI L_X1_19 dX1_readNumber_77 (fun H locs hI => ?_)
                  obtain ⟨c16, ec16⟩ : ∃ z9 : CF, z9 = up c 0 4 (nI (b + 1)) := ⟨_, rfl⟩
                  have hI : Iv E s H locs (c16, u.2) := by rw [ec16]; exact hI
                  refine lv_goto (tgt := 22) hx hy dX1_readNumber_80 (by decide) ?_
                  exact ih_22 (v * 10 + (z.2 b - 48)) (b + 1) c16 (by omega) (by omega) (by omega) (by rw [ec16, hW, up_up]) (hM.trans (dl_step (by omega))) _ _ _ hI (lv_sub hl [0, 2, 3] rfl)
                · have h15 : mo < v * 10 + (z.2 b - 48) := Nat.lt_of_not_le (fun q9 => h15 ((nI_leI (a := v * 10 + (z.2 b - 48)) (b := mo) (by omega) (by omega)).mpr q9))
                  refine lv_iload_n hx hy dX1_readNumber_60 rfl (lv_at hl 1 rfl) ?_
                  exact rI hQ F (v := c) hI dX1_readNumber_61 (by rw [hD, hM, dl_stop _ (by omega)]; exact ⟨rfl, hW⟩)
              · have hp10 : r11 = -1 := hp10.trans (if_neg hd13)
                subst hp10
                refine lv_istore (lv' := [(4, .int ((-1))), (3, .int (nI v)), (0, .ref (eA E 3)), (2, .int (nI mo))]) hx hy dX1_readNumber_41 hl (by decide) rfl (fun ls hl => ?_)
                refine lv_iload hx hy dX1_readNumber_43 (lv_at hl 0 rfl) ?_
                refine lv_iconst (v := (-1)) hx hy dX1_readNumber_45 (by decide) ?_
                refine lv_icmp_eq (tgt := 60) hx hy dX1_readNumber_46 (by decide) (fun _ => ?_) (fun q => absurd q (by decide))
                refine lv_iload_n hx hy dX1_readNumber_60 rfl (lv_at hl 1 rfl) ?_
                exact rI hQ F (v := c) hI dX1_readNumber_61 (by rw [hD, hM, dl_stop _ (by omega)]; exact ⟨rfl, hW⟩)
      exact lp7 (z.1 + 1) (z.2 a - 48) (a + 1) c6 (by omega) (by omega) (by omega) ec6 rfl _ _ _ hI (lv_sub hl [0, 1, 3] rfl)
    · have h5 : z.2 a - 48 < lo := Nat.lt_of_not_le (fun q9 => h5 ((nI_leI (a := lo) (b := z.2 a - 48) (by omega) (by omega)).mpr q9))
      refine lv_iconst (v := (-1)) hx hy dX1_readNumber_10 (by decide) ?_
      exact rI hQ F (v := u.1) hI dX1_readNumber_11 (by rw [show dg z lo mo a = (none, a) from if_neg (by omega)]; exact ⟨rfl, (up_self _ _ _ _ hp).symm⟩)
  · have hp1 : r2 = -1 := hp1.trans (if_neg hd4)
    subst hp1
    refine lv_istore_n (lv' := [(3, .int ((-1))), (0, .ref (eA E 3)), (1, .int (nI lo)), (2, .int (nI mo))]) hx hy dX1_readNumber_4 rfl hl (by decide) rfl (fun ls hl => ?_)
    refine lv_iload_n hx hy dX1_readNumber_5 rfl (lv_at hl 0 rfl) ?_
    refine lv_iload_n hx hy dX1_readNumber_6 rfl (lv_at hl 2 rfl) ?_
    refine lv_icmp_ge (tgt := 12) hx hy dX1_readNumber_7 (by decide) (fun q => absurd q (m1_ge (by omega))) (fun h17 => ?_)
    refine lv_iconst (v := (-1)) hx hy dX1_readNumber_10 (by decide) ?_
    exact rI hQ F (v := u.1) hI dX1_readNumber_11 (by rw [show dg z lo mo a = (none, a) from if_neg (by omega)]; exact ⟨rfl, (up_self _ _ _ _ hp).symm⟩)
