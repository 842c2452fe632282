set_option maxHeartbeats 400000 in
set_option maxRecDepth 100000 in
theorem kX6_fault (l : Launch) (E : EV) (u : SS) {z : Tx} (hTm : TxM u.1 z) (hz80 : z.1 ≤ 80) (hch : ∀ i, i < z.1 → z.2 i < 65536) : CT l yX6_fault cX6_fault 2 (some .int) (Rm 6 139) [.ref (eA E 48)] E u (Q_i E (fun r c => FaultP z u.1 r c) (fun (c : CF) => (c, u.2))) := by
  refine mstart RX6 (by decide +kernel) rfl (Nat.le_of_ble_eq_true rfl) ?_
  intro p e s m args below meth co ls Q hQ F hI hl
  have hx := F.1
  have hy := F.2.1
  have hl : lv_has ls 2 [(0, .ref (eA E 48))] := hl
  refine lv_aload_n hx hy dX6_fault_0 rfl (lv_at hl 0 rfl) ?_
  refine lv_iconst (v := nI 0) hx hy dX6_fault_1 (by decide) ?_
  refine pX6_spot F hI L_X6_147 dX6_fault_2 (fun H locs hI => ?_)
  obtain ⟨c1, ec1⟩ : ∃ z9 : CF, z9 = up u.1 40 3 (nI 0) := ⟨_, rfl⟩
  have hI : Iv E s H locs (c1, u.2) := by rw [ec1]; exact hI
  refine lv_aload_n hx hy dX6_fault_5 rfl (lv_at hl 0 rfl) ?_
  refine lv_iconst (v := nI 0) hx hy dX6_fault_6 (by decide) ?_
  refine pX6_readMany F hI L_X6_166 dX6_fault_7 (fun H locs hI => ?_)
  obtain ⟨c2, ec2⟩ : ∃ z9 : CF, z9 = up c1 40 4 (nI 0) := ⟨_, rfl⟩
  have hI : Iv E s H locs (c2, u.2) := by rw [ec2]; exact hI
  refine lv_iconst (v := nI 1) hx hy dX6_fault_10 (by decide) ?_
  refine lv_istore_n (lv' := [(1, .int (nI 1)), (0, .ref (eA E 48))]) hx hy dX6_fault_11 rfl hl (by decide) rfl (fun ls hl => ?_)
  have lp3 : ∀ (fu : Nat) (i b : Nat) (g : Nat → Ln) (c : CF), (b ≤ z.1) → (6 * i ≤ b) → (81 - i < fu) → (RdO u.1 c) → (c 40 3 = nI b) → (c 40 4 = nI i) → (∀ j, j < i → LnM c 49 (4 * j) (g j)) → (rdT z = allL z (81 - i) b i g) →  ∀ (H : Heap) (locs : List Loc) (ls : Array Slot), Iv E s H locs ((c, u.2)) → lv_has ls 2 [(1, .int (nI 1)), (0, .ref (eA E 48))] → W p l e (Rm 6 139) s m args below meth co H locs 0 0 Q (F0 m 12 ls []) := by
    intro fu
    induction fu with
    | zero => intro i b g c hb h6 hf hO h3 h4 hrd hM; exact absurd hf (Nat.not_lt_zero _)
    | succ fu ih =>
      intro i b g c hb h6 hf hO h3 h4 hrd hM H locs ls hI hl
      have hTc : TxS c z b := ⟨hTm.keep (hO _ _ (by omega) (by omega)) (fun i => hO _ _ (by omega) (by omega)), hz80, hch, h3, hb⟩
      have ih_12 := ih
      refine lv_iload_n hx hy dX6_fault_12 rfl (lv_at hl 0 rfl) ?_
      refine lv_if_eq (tgt := 38) hx hy dX6_fault_13 (by decide) (fun q => absurd q (by decide)) (fun _ => ?_)
      refine lv_aload_n hx hy dX6_fault_16 rfl (lv_at hl 1 rfl) ?_
      refine zI hI (xV F hI hl (kX6_readsLine l E ((c, u.2)) hTc h4 (by omega)) M_X6_176 (rX6 F hI) rfl ⟨Nat.le_of_ble_eq_true rfl, Nat.le_of_ble_eq_true rfl⟩ ⟨Nat.zero_le _, Nat.zero_le _⟩ rfl (Nat.le_of_ble_eq_true rfl) dX6_fault_17) (fun r5 v6 H locs hI hp4 => ?_)
      obtain ⟨hO2, hs3, h49k, hLr⟩ := hp4
      have hll := lin_len (z := z) (a := b) hb
      have hTv : TxS v6 z ((lin z b).2) := hO2.tx hTc hs3 hll.1
      rcases hLr with hLr | hLr
      · obtain ⟨hx1, hx2⟩ := hLr
        subst hx2
        refine tI (show _ = nI 0 from rfl) ?_
        refine lv_if_ne (tgt := 28) hx hy dX6_fault_20 (by decide) (fun q => absurd q (by decide)) (fun _ => ?_)
        refine lv_aload_n hx hy dX6_fault_23 rfl (lv_at hl 1 rfl) ?_
        refine gX6_spot F hI L_X6_147 dX6_fault_24 ?_
        refine tI (show _ = v6 40 3 from rfl) ?_
        refine tI hTv.2.2.2.1 ?_
        exact rI hQ F (v := v6) hI dX6_fault_27 ⟨hO.tr hO2, by have e9 : rdT z = _ := (hM.trans ((congrArg (fun n9 => allL z n9 b i g) (show 81 - i = (80 - i) + 1 by omega)).trans (allL_fault hx1))); rw [e9]; exact Or.inr ⟨_, rfl, rfl⟩⟩
      · obtain ⟨ql, hx1, hx2, hx4, hx5⟩ := hLr
        subst hx2
        refine tI (show _ = nI 1 from rfl) ?_
        have hl5 := hll.2 (by rw [hx1]; rfl)
        refine lv_if_ne (tgt := 28) hx hy dX6_fault_20 (by decide) (fun _ => ?_) (fun q => absurd q (by decide))
        refine lv_aload_n hx hy dX6_fault_28 rfl (lv_at hl 1 rfl) ?_
        refine lv_bipush (v := nI 59) hx hy dX6_fault_29 (by decide) ?_
        refine zI hI (xV F hI hl (kX6_takes l E ((v6, u.2)) hTv (59) (by omega)) M_X6_157 (rX6 F hI) rfl ⟨Nat.le_of_ble_eq_true rfl, Nat.le_of_ble_eq_true rfl⟩ ⟨Nat.zero_le _, Nat.zero_le _⟩ rfl (Nat.le_of_ble_eq_true rfl) dX6_fault_31) (fun r8 v9 H locs hI hp7 => ?_)
        by_cases hb10 : (lin z b).2 < z.1 ∧ z.2 ((lin z b).2) = 59
        · rw [if_pos hb10] at hp7
          obtain ⟨rfl, hw11⟩ := hp7
          have hT12 : TxS v9 z ((lin z b).2 + 1) := by rw [hw11]; exact hTv.up3 (by omega)
          have hthT12 := hT12.2.2.2.2
          refine lv_istore_n (lv' := [(1, .int (nI 1)), (0, .ref (eA E 48))]) hx hy dX6_fault_34 rfl hl (by decide) rfl (fun ls hl => ?_)
          refine lv_goto (tgt := 12) hx hy dX6_fault_35 (by decide) ?_
          exact ih_12 (i + 1) ((lin z b).2 + 1) (fun j => if j = i then ql else g j) v9 (by omega) (by omega) (by omega) (by rw [hw11]; exact (hO.tr hO2).up (by omega)) (by rw [hw11]; exact up_s _ _ _ _) (by rw [hw11, up_at, if_neg (by omega)]; exact hx4) (fun j hj => (reads_next hrd h49k hx5 j hj).keep (fun k _ _ => by rw [hw11, up_at, if_neg (by omega)])) (hM.trans ((congrArg (fun n9 => allL z n9 b i g) (show 81 - i = (80 - i) + 1 by omega)).trans ((allL_next hx1 (by omega) hb10).trans (by rw [show 81 - (i + 1) = 80 - i from by omega])))) _ _ _ hI (lv_sub hl [0, 1] rfl)
        · rw [if_neg hb10] at hp7
          obtain ⟨rfl, hw13⟩ := hp7
          have hI : Iv E s H locs (v6, u.2) := by rw [hw13] at hI; exact hI
          refine lv_istore_n (lv' := [(1, .int (nI 0)), (0, .ref (eA E 48))]) hx hy dX6_fault_34 rfl hl (by decide) rfl (fun ls hl => ?_)
          refine lv_goto (tgt := 12) hx hy dX6_fault_35 (by decide) ?_
          refine lv_iload_n hx hy dX6_fault_12 rfl (lv_at hl 0 rfl) ?_
          refine lv_if_eq (tgt := 38) hx hy dX6_fault_13 (by decide) (fun _ => ?_) (fun q => absurd q (by decide))
          refine lv_aload_n hx hy dX6_fault_38 rfl (lv_at hl 1 rfl) ?_
          refine gX6_spot F hI L_X6_147 dX6_fault_39 ?_
          refine tI (show _ = v6 40 3 from rfl) ?_
          refine tI hTv.2.2.2.1 ?_
          refine lv_aload_n hx hy dX6_fault_42 rfl (lv_at hl 1 rfl) ?_
          refine gX6_textLong F hI L_X6_140 dX6_fault_43 ?_
          refine tI (show _ = v6 40 2 from rfl) ?_
          refine tI hTv.1.1 ?_
          refine lv_icmp_ne (tgt := 54) hx hy dX6_fault_46 (by decide) (fun h14 => ?_) (fun h14 => ?_)
          · have h14 : (lin z b).2 ≠ z.1 := fun q9 => h14 ((nI_eq (a := (lin z b).2) (b := z.1) (by omega) (by omega)).mpr q9)
            refine lv_aload_n hx hy dX6_fault_54 rfl (lv_at hl 1 rfl) ?_
            refine gX6_spot F hI L_X6_147 dX6_fault_55 ?_
            refine tI (show _ = v6 40 3 from rfl) ?_
            refine tI hTv.2.2.2.1 ?_
            exact rI hQ F (v := v6) hI dX6_fault_58 ⟨hO.tr hO2, by have e9 : rdT z = _ := (hM.trans ((congrArg (fun n9 => allL z n9 b i g) (show 81 - i = (80 - i) + 1 by omega)).trans (allL_stop hx1 (by omega) hb10))); rw [e9]; exact Or.inr ⟨_, rfl, rfl⟩⟩
          · have h14 : (lin z b).2 = z.1 := (nI_eq (a := (lin z b).2) (b := z.1) (by omega) (by omega)).mp h14
            refine zc F K_X6_85 dX6_fault_49 ?_
            refine lv_goto (tgt := 58) hx hy dX6_fault_51 (by decide) ?_
            exact rI hQ F (v := v6) hI dX6_fault_58 ⟨hO.tr hO2, by have e9 : rdT z = _ := (hM.trans ((congrArg (fun n9 => allL z n9 b i g) (show 81 - i = (80 - i) + 1 by omega)).trans (allL_end hx1 (by omega)))); rw [e9]; exact Or.inl ⟨rfl, rfl, hx4, reads_next hrd h49k hx5⟩⟩
  exact lp3 82 0 0 (fun _ => (0, 0, 0, 0)) c2 (Nat.zero_le _) (by omega) (by omega) (by rw [ec2, ec1]; exact ((RdO.rf _).up (by omega)).up (by omega)) (by rw [ec2, up_at, if_neg (by omega), ec1]; exact up_s _ _ _ _) (by rw [ec2]; exact up_s _ _ _ _) (fun j hj => absurd hj (Nat.not_lt_zero j)) rfl _ _ _ hI (lv_sub hl [0, 1] rfl)
set_option maxHeartbeats 400000 in
set_option maxRecDepth 100000 in
theorem kX6_isAhead (l : Launch) (E : EV) (u : SS) {n mm : Nat} {g : Nat → Ln} (hn : u.1 41 0 = nI n) (hn16 : n ≤ 16) (hr : ∀ j, j < mm → LnM u.1 49 (4 * j) (g j)) (hm14 : mm ≤ 14) (hg : ∀ j, j < mm → LnRd (g j)) (k : Nat) (hk : k < mm) : CT l yX6_isAhead cX6_isAhead 4 (some .boolean) (Rm 1 20) [.ref (eA E 48), .int (nI k)] E u (Q_i E (fun r _ => r = if ahd n g k then 1 else 0) (fun (_ : Unit) => u)) := by
  refine mstart RX6 (by decide +kernel) rfl (Nat.le_of_ble_eq_true rfl) ?_
  intro p e s m args below meth co ls Q hQ F hI hl
  have hx := F.1
  have hy := F.2.1
  have hl : lv_has ls 4 [(0, .ref (eA E 48)), (1, .int (nI k))] := hl
  have hgk := hg k hk
  have hg6 := hgk.1
  have hnl := nlK_le (g k).1
  have hnp := nl_np (g k).1 (by omega)
  refine lv_iconst (v := nI 1) hx hy dX6_isAhead_0 (by decide) ?_
  refine lv_istore_n (lv' := [(2, .int (nI 1)), (0, .ref (eA E 48)), (1, .int (nI k))]) hx hy dX6_isAhead_1 rfl hl (by decide) rfl (fun ls hl => ?_)
  refine lv_iconst (v := nI 1) hx hy dX6_isAhead_2 (by decide) ?_
  refine lv_istore_n (lv' := [(3, .int (nI 1)), (2, .int (nI 1)), (0, .ref (eA E 48)), (1, .int (nI k))]) hx hy dX6_isAhead_3 rfl hl (by decide) rfl (fun ls hl => ?_)
  have lp1 : ∀ (fu : Nat) (wv : Nat), (wv ≤ nlK (g k).1) → (nlK (g k).1 - wv < fu) →  ∀ (H : Heap) (locs : List Loc) (ls : Array Slot), Iv E s H locs (u) → lv_has ls 4 [(3, .int (nI (wv + 1))), (2, .int (nI (ahB g n k wv))), (0, .ref (eA E 48)), (1, .int (nI k))] → W p l e (Rm 1 20) s m args below meth co H locs 0 0 Q (F0 m 4 ls []) := by
    intro fu
    induction fu with
    | zero => intro wv hw hf; exact absurd hf (Nat.not_lt_zero _)
    | succ fu ih =>
      intro wv hw hf H locs ls hI hl
      have ih_4 := ih
      refine lv_iload_n hx hy dX6_isAhead_4 rfl (lv_at hl 0 rfl) ?_
      refine lv_aload_n hx hy dX6_isAhead_5 rfl (lv_at hl 2 rfl) ?_
      refine gX6_read F hI L_X6_38 dX6_isAhead_6 ?_
      refine lv_iconst (v := nI 4) hx hy dX6_isAhead_9 (by decide) ?_
      refine lv_iload_n hx hy dX6_isAhead_10 rfl (lv_at hl 3 rfl) ?_
      refine lv_imul hx hy dX6_isAhead_11 ?_
      refine tI (pk_mul (4) (k)) ?_
      refine aIlN F hI iX6_read (i := 4 * k) (by omega) (by decide) dX6_isAhead_12 ?_
      refine tI (hr k hk).1 ?_
      refine zI hI (xS F hI hl (kX6_linesBy l E (u) ((g k).1) (by omega)) M_X6_180 rfl ⟨Nat.le_of_ble_eq_true rfl, Nat.le_of_ble_eq_true rfl⟩ ⟨Nat.zero_le _, Nat.zero_le _⟩ rfl (Nat.le_of_ble_eq_true rfl) dX6_isAhead_13) (fun r3 v4 H locs hI hp2 => ?_)
      subst hp2
      refine lv_icmp_gt (tgt := 56) hx hy dX6_isAhead_16 (by decide) (fun h5 => ?_) (fun h5 => ?_)
      · have h5 : nlK ((g k).1) < wv + 1 := (nI_ltI (a := nlK ((g k).1)) (b := wv + 1) (by omega) (by omega)).mp h5
        refine lv_iload_n hx hy dX6_isAhead_56 rfl (lv_at hl 1 rfl) ?_
        exact rZ hQ F (v := ()) (by have h9 := (ahB_iff g n k wv).2; rcases (show ahB g n k wv = 0 ∨ ahB g n k wv = 1 by omega) with h8 | h8 <;> rw [h8] <;> rfl) hI dX6_isAhead_57 (by rw [show wv = nlK (g k).1 from by omega, ahB_end]; split <;> rfl)
      · have h5 : wv + 1 ≤ nlK ((g k).1) := Nat.le_of_not_lt (fun q9 => h5 ((nI_ltI (a := nlK ((g k).1)) (b := wv + 1) (by omega) (by omega)).mpr q9))
        refine lv_iload_n hx hy dX6_isAhead_19 rfl (lv_at hl 1 rfl) ?_
        have hab := (ahB_iff g n k wv).2
        refine lv_if_eq (tgt := 48) hx hy dX6_isAhead_20 (by decide) (fun h6 => ?_) (fun h6 => ?_)
        · have h6 : ahB g n k wv = 0 := (nI_eq (a := ahB g n k wv) (b := 0) (by have h9 := (ahB_iff g n k wv).2; omega) (by omega)).mp h6
          refine lv_iconst (v := nI 0) hx hy dX6_isAhead_48 (by decide) ?_
          refine lv_istore_n (lv' := [(2, .int (nI 0)), (3, .int (nI (wv + 1))), (0, .ref (eA E 48)), (1, .int (nI k))]) hx hy dX6_isAhead_49 rfl hl (by decide) rfl (fun ls hl => ?_)
          have e7 : ahB g n k (wv + 1) = 0 := if_neg (by omega)
          have hl : lv_has ls 4 [(2, .int (nI (ahB g n k (wv + 1)))), (3, .int (nI (wv + 1))), (0, .ref (eA E 48)), (1, .int (nI k))] := by rw [e7]; exact hl
          refine lv_iinc (v := nI (wv + 1 + 1)) (lv' := [(3, .int (nI (wv + 1 + 1))), (2, .int (nI (ahB g n k (wv + 1)))), (0, .ref (eA E 48)), (1, .int (nI k))]) hx hy dX6_isAhead_50 hl (k := 1) rfl (nI_add (wv + 1) 1) (by decide) rfl (fun ls hl => ?_)
          refine lv_goto (tgt := 4) hx hy dX6_isAhead_53 (by decide) ?_
          exact ih_4 (wv + 1) (by omega) (by omega) _ _ _ hI (lv_sub hl [0, 1, 2, 3] rfl)
        · have h6 : ahB g n k wv ≠ 0 := fun q9 => h6 ((nI_eq (a := ahB g n k wv) (b := 0) (by have h9 := (ahB_iff g n k wv).2; omega) (by omega)).mpr q9)
          refine lv_aload_n hx hy dX6_isAhead_23 rfl (lv_at hl 2 rfl) ?_
          refine gX6_read F hI L_X6_38 dX6_isAhead_24 ?_
          refine lv_iconst (v := nI 4) hx hy dX6_isAhead_27 (by decide) ?_
          refine lv_iload_n hx hy dX6_isAhead_28 rfl (lv_at hl 3 rfl) ?_
          refine lv_imul hx hy dX6_isAhead_29 ?_
          refine tI (pk_mul (4) (k)) ?_
          refine lv_iload_n hx hy dX6_isAhead_30 rfl (lv_at hl 0 rfl) ?_
          refine lv_iadd hx hy dX6_isAhead_31 ?_
          refine tI (nI_add (4 * k) (wv + 1)) ?_
          refine aIlN F hI iX6_read (i := 4 * k + wv + 1) (by omega) (by decide) dX6_isAhead_32 ?_
          refine tI (LnM.nth (p := 4 * k) (w := wv) (hr k hk) (by omega) (by omega)) ?_
          refine lv_aload_n hx hy dX6_isAhead_33 rfl (lv_at hl 2 rfl) ?_
          refine gX6_all F hI L_X6_7 dX6_isAhead_34 ?_
          refine lv_iconst (v := nI 0) hx hy dX6_isAhead_37 (by decide) ?_
          refine aIlN F hI iX6_all (i := 0) (by omega) (by decide) dX6_isAhead_38 ?_
          refine tI hn ?_
          refine lv_iload_n hx hy dX6_isAhead_39 rfl (lv_at hl 3 rfl) ?_
          refine lv_iadd hx hy dX6_isAhead_40 ?_
          refine tI (nI_add (n) (k)) ?_
          refine lv_icmp_ge (tgt := 48) hx hy dX6_isAhead_41 (by decide) (fun h7 => ?_) (fun h7 => ?_)
          · have h7 : n + k ≤ nthN (g k) wv := (nI_leI (a := n + k) (b := nthN (g k) wv) (by omega) (by have h9 := hgk.nth wv; omega)).mp h7
            refine lv_iconst (v := nI 0) hx hy dX6_isAhead_48 (by decide) ?_
            refine lv_istore_n (lv' := [(2, .int (nI 0)), (3, .int (nI (wv + 1))), (0, .ref (eA E 48)), (1, .int (nI k))]) hx hy dX6_isAhead_49 rfl hl (by decide) rfl (fun ls hl => ?_)
            have e7 : ahB g n k (wv + 1) = 0 := if_neg (by omega)
            have hl : lv_has ls 4 [(2, .int (nI (ahB g n k (wv + 1)))), (3, .int (nI (wv + 1))), (0, .ref (eA E 48)), (1, .int (nI k))] := by rw [e7]; exact hl
            refine lv_iinc (v := nI (wv + 1 + 1)) (lv' := [(3, .int (nI (wv + 1 + 1))), (2, .int (nI (ahB g n k (wv + 1)))), (0, .ref (eA E 48)), (1, .int (nI k))]) hx hy dX6_isAhead_50 hl (k := 1) rfl (nI_add (wv + 1) 1) (by decide) rfl (fun ls hl => ?_)
            refine lv_goto (tgt := 4) hx hy dX6_isAhead_53 (by decide) ?_
            exact ih_4 (wv + 1) (by omega) (by omega) _ _ _ hI (lv_sub hl [0, 1, 2, 3] rfl)
          · have h7 : nthN (g k) wv < n + k := Nat.lt_of_not_le (fun q9 => h7 ((nI_leI (a := n + k) (b := nthN (g k) wv) (by omega) (by have h9 := hgk.nth wv; omega)).mpr q9))
            refine lv_iconst (v := nI 1) hx hy dX6_isAhead_44 (by decide) ?_
            refine lv_goto (tgt := 49) hx hy dX6_isAhead_45 (by decide) ?_
            refine lv_istore_n (lv' := [(2, .int (nI 1)), (3, .int (nI (wv + 1))), (0, .ref (eA E 48)), (1, .int (nI k))]) hx hy dX6_isAhead_49 rfl hl (by decide) rfl (fun ls hl => ?_)
            have e7 : ahB g n k (wv + 1) = 1 := if_pos ⟨by omega, by omega⟩
            have hl : lv_has ls 4 [(2, .int (nI (ahB g n k (wv + 1)))), (3, .int (nI (wv + 1))), (0, .ref (eA E 48)), (1, .int (nI k))] := by rw [e7]; exact hl
            refine lv_iinc (v := nI (wv + 1 + 1)) (lv' := [(3, .int (nI (wv + 1 + 1))), (2, .int (nI (ahB g n k (wv + 1)))), (0, .ref (eA E 48)), (1, .int (nI k))]) hx hy dX6_isAhead_50 hl (k := 1) rfl (nI_add (wv + 1) 1) (by decide) rfl (fun ls hl => ?_)
            refine lv_goto (tgt := 4) hx hy dX6_isAhead_53 (by decide) ?_
            exact ih_4 (wv + 1) (by omega) (by omega) _ _ _ hI (lv_sub hl [0, 1, 2, 3] rfl)
  exact lp1 (nlK (g k).1 + 1) 0 (by omega) (by omega) _ _ _ hI (lv_sub hl [0, 1, 2, 3] rfl)
set_option maxHeartbeats 400000 in
set_option maxRecDepth 100000 in
theorem kX6_readCircuit (l : Launch) (E : EV) (u : SS) {X : XS} (hC : RepM u.1 X) (hX : XOk X) : CT l yX6_readCircuit cX6_readCircuit 3 (some .int) (Rm 7 160) [.ref (eA E 48)] E u (Q_i E (fun r v => r = (a_read X).1 ∧ RepM v.1 (a_read X).2 ∧ SameC u.1 v.1) (fun (v : SS) => v)) := by
  refine mstart RX6 (by decide +kernel) rfl (Nat.le_of_ble_eq_true rfl) ?_
  intro p e s m args below meth co ls Q hQ F hI hl
  have hx := F.1
  have hy := F.2.1
  have hl : lv_has ls 3 [(0, .ref (eA E 48))] := hl
  have hC2 := hC
  obtain ⟨hA, hH, hS, hT⟩ := hC2
  have hn16 := hX.1.1
  have hl1 := hX.1.2.1
  have hl2 := hX.1.2.2.1
  have hh4 := hX.2.1.1
  have hs1 := hX.2.2.1.1
  have ht80 := hX.2.2.2.1
  refine lv_aload_n hx hy dX6_readCircuit_0 rfl (lv_at hl 0 rfl) ?_
  refine zI hI (xV F hI hl (kX6_fault l E (u) hT ht80 hX.2.2.2.2) M_X6_183 (rX6 F hI) rfl ⟨Nat.le_of_ble_eq_true rfl, Nat.le_of_ble_eq_true rfl⟩ ⟨Nat.zero_le _, Nat.zero_le _⟩ rfl (Nat.le_of_ble_eq_true rfl) dX6_readCircuit_1) (fun r2 v3 H locs hI hp1 => ?_)
  obtain ⟨hRo, hFr⟩ := hp1
  have hm14 := rdT_n (z := X.2.2.2) ht80
  have hgr := rdT_rd X.2.2.2
  have hsc4 : ScrM u.1 v3 := hRo.scr
  have hCs5 := ScrM.rep hC hX hsc4
  have hAhCs5 : RowM v3 41 0 X.1 := hCs5.1
  have hAv : RowM v3 41 0 X.1 := hAhCs5
  have hCv : RepM v3 X := hCs5
  rcases hFr with hFr | hFr
  · obtain ⟨hrn, hr9, h4m, hlm⟩ := hFr
    subst hr9
    refine tI (show _ = (-100000005 : Int32) from rfl) ?_
    refine lv_istore_n (lv' := [(1, .int ((-100000005))), (0, .ref (eA E 48))]) hx hy dX6_readCircuit_4 rfl hl (by decide) rfl (fun ls hl => ?_)
    refine lv_iload_n hx hy dX6_readCircuit_5 rfl (lv_at hl 0 rfl) ?_
    refine zc F K_X6_85 dX6_readCircuit_6 ?_
    refine lv_icmp_eq (tgt := 16) hx hy dX6_readCircuit_8 (by decide) (fun _ => ?_) (fun q => absurd q (by decide))
    refine lv_iconst (v := nI 0) hx hy dX6_readCircuit_16 (by decide) ?_
    refine lv_istore_n (lv' := [(2, .int (nI 0)), (1, .int ((-100000005))), (0, .ref (eA E 48))]) hx hy dX6_readCircuit_17 rfl hl (by decide) rfl (fun ls hl => ?_)
    have lp6 : ∀ (fu : Nat) (k : Nat), (k ≤ (rdT X.2.2.2).2.1) → ((rdT X.2.2.2).2.1 - k < fu) → (∀ j, j < k → ahd X.1.1 (rdT X.2.2.2).2.2 j) →  ∀ (H : Heap) (locs : List Loc) (ls : Array Slot), Iv E s H locs ((v3, u.2)) → lv_has ls 3 [(2, .int (nI k)), (0, .ref (eA E 48))] → W p l e (Rm 7 160) s m args below meth co H locs 0 0 Q (F0 m 18 ls []) := by
      intro fu
      induction fu with
      | zero => intro k hk hf hal; exact absurd hf (Nat.not_lt_zero _)
      | succ fu ih =>
        intro k hk hf hal H locs ls hI hl
        have ih_18 := ih
        refine lv_iload_n hx hy dX6_readCircuit_18 rfl (lv_at hl 0 rfl) ?_
        refine lv_aload_n hx hy dX6_readCircuit_19 rfl (lv_at hl 1 rfl) ?_
        refine gX6_readMany F hI L_X6_166 dX6_readCircuit_20 ?_
        refine tI (show _ = v3 40 4 from rfl) ?_
        refine tI h4m ?_
        refine lv_icmp_ge (tgt := 43) hx hy dX6_readCircuit_23 (by decide) (fun h7 => ?_) (fun h7 => ?_)
        · have h7 : (rdT X.2.2.2).2.1 ≤ k := (nI_leI (a := (rdT X.2.2.2).2.1) (b := k) (by omega) (by omega)).mp h7
          refine lv_aload_n hx hy dX6_readCircuit_43 rfl (lv_at hl 1 rfl) ?_
          refine gX6_all F hI L_X6_7 dX6_readCircuit_44 ?_
          refine lv_iconst (v := nI 0) hx hy dX6_readCircuit_47 (by decide) ?_
          refine aIlN F hI iX6_all (i := 0) (by omega) (by decide) dX6_readCircuit_48 ?_
          refine tI (show _ = v3 41 0 from rfl) ?_
          refine tI hAhCs5.1 ?_
          refine lv_aload_n hx hy dX6_readCircuit_49 rfl (lv_at hl 1 rfl) ?_
          refine gX6_readMany F hI L_X6_166 dX6_readCircuit_50 ?_
          refine tI (show _ = v3 40 4 from rfl) ?_
          refine tI h4m ?_
          refine lv_iadd hx hy dX6_readCircuit_53 ?_
          refine tI (nI_add (X.1.1) ((rdT X.2.2.2).2.1)) ?_
          refine lv_bipush (v := nI 16) hx hy dX6_readCircuit_54 (by decide) ?_
          refine lv_icmp_le (tgt := 62) hx hy dX6_readCircuit_56 (by decide) (fun h8 => ?_) (fun h8 => ?_)
          · have h8 : X.1.1 + (rdT X.2.2.2).2.1 ≤ 16 := (nI_leI (a := X.1.1 + (rdT X.2.2.2).2.1) (b := 16) (by omega) (by omega)).mp h8
            refine lv_aload_n hx hy dX6_readCircuit_62 rfl (lv_at hl 1 rfl) ?_
            refine zV hI (xV F hI hl (kX6_remember l E ((v3, u.2))) M_X6_70 (rX6 F hI) rfl ⟨Nat.le_of_ble_eq_true rfl, Nat.le_of_ble_eq_true rfl⟩ ⟨Nat.zero_le _, Nat.zero_le _⟩ rfl (Nat.le_of_ble_eq_true rfl) dX6_readCircuit_63) (fun v11 H locs hI hp9 => ?_)
            have hA1 : RowM v11 41 0 X.1 := hAv.keep hn16 (fun i _ _ => hp9.2 _ _ (by omega))
            have h4r : v11 40 4 = nI (rdT X.2.2.2).2.1 := (hp9.2 _ _ (by omega)).trans h4m
            have hlr : ∀ j, j < (rdT X.2.2.2).2.1 → LnM v11 49 (4 * j) ((rdT X.2.2.2).2.2 j) := fun j hj => (hlm j hj).keep (fun k _ _ => hp9.2 _ _ (by omega))
            refine lv_iconst (v := nI 0) hx hy dX6_readCircuit_66 (by decide) ?_
            refine lv_istore_n (lv' := [(2, .int (nI 0)), (0, .ref (eA E 48))]) hx hy dX6_readCircuit_67 rfl hl (by decide) rfl (fun ls hl => ?_)
            have lp12 : ∀ (fu : Nat) (j : Nat) (c : CF), (j ≤ (rdT X.2.2.2).2.1) → ((rdT X.2.2.2).2.1 - j < fu) → (RowM c 41 0 (X.1.1 + j, X.1.2.1, appF X.1 (rdT X.2.2.2).2.2)) → (∀ q i, q ≠ 41 → c q i = v11 q i) →  ∀ (H : Heap) (locs : List Loc) (ls : Array Slot), Iv E s H locs ((c, u.2)) → lv_has ls 3 [(2, .int (nI (4 * j))), (0, .ref (eA E 48))] → W p l e (Rm 7 160) s m args below meth co H locs 0 0 Q (F0 m 68 ls []) := by
              intro fu
              induction fu with
              | zero => intro j c hj hf hrow hoc; exact absurd hf (Nat.not_lt_zero _)
              | succ fu ih =>
                intro j c hj hf hrow hoc H locs ls hI hl
                have ih_68 := ih
                refine lv_iload_n hx hy dX6_readCircuit_68 rfl (lv_at hl 0 rfl) ?_
                refine lv_iconst (v := nI 4) hx hy dX6_readCircuit_69 (by decide) ?_
                refine lv_aload_n hx hy dX6_readCircuit_70 rfl (lv_at hl 1 rfl) ?_
                refine gX6_readMany F hI L_X6_166 dX6_readCircuit_71 ?_
                refine tI (show _ = c 40 4 from rfl) ?_
                refine tI ((hoc _ _ (by decide)).trans h4r) ?_
                refine lv_imul hx hy dX6_readCircuit_74 ?_
                refine tI (pk_mul (4) ((rdT X.2.2.2).2.1)) ?_
                refine lv_icmp_ge (tgt := 118) hx hy dX6_readCircuit_75 (by decide) (fun h13 => ?_) (fun h13 => ?_)
                · have h13 : 4 * ((rdT X.2.2.2).2.1) ≤ 4 * j := (nI_leI (a := 4 * ((rdT X.2.2.2).2.1)) (b := 4 * j) (by omega) (by omega)).mp h13
                  have e8 : j = (rdT X.2.2.2).2.1 := by omega
                  have hap : RowM c 41 0 (appL X.1 (rdT X.2.2.2).2.1 (rdT X.2.2.2).2.2) := by rw [e8] at hrow; exact hrow
                  refine lv_aload_n hx hy dX6_readCircuit_118 rfl (lv_at hl 1 rfl) ?_
                  refine lv_aload_n hx hy dX6_readCircuit_119 rfl (lv_at hl 1 rfl) ?_
                  refine gX6_all F hI L_X6_7 dX6_readCircuit_120 ?_
                  refine lv_iconst (v := nI 0) hx hy dX6_readCircuit_123 (by decide) ?_
                  refine aIlN F hI iX6_all (i := 0) (by omega) (by decide) dX6_readCircuit_124 ?_
                  refine tI (show _ = c 41 0 from rfl) ?_
                  refine tI hap.1 ?_
                  refine zI hI (xV F hI hl (kX6_acted l E ((c, u.2)) (act_hh (c1 := c) hCv.2.1.1 hp9 hoc) hh4 (nI (X.1.1 + (rdT X.2.2.2).2.1))) M_X6_77 (rX6 F hI) rfl ⟨Nat.le_of_ble_eq_true rfl, Nat.le_of_ble_eq_true rfl⟩ ⟨Nat.zero_le _, Nat.zero_le _⟩ rfl (Nat.le_of_ble_eq_true rfl) dX6_readCircuit_125) (fun r15 v16 H locs hI hp14 => ?_)
                  obtain ⟨hra, hact⟩ := hp14
                  subst hra
                  exact rI hQ F (v := (v16, u.2)) hI dX6_readCircuit_128 (by rw [a_read, hrn]; have h9 := act_end hCv hX hp9 hoc hap (by show X.1.1 + (rdT X.2.2.2).2.1 ≤ 16; omega) hact; exact (show _ = (if _ then _ else if _ then _ else _ : Int32 × XS).1 ∧ RepM _ (if _ then _ else if _ then _ else _ : Int32 × XS).2 ∧ _ from by rw [if_neg (fun q9 => q9 (fun j9 hj9 => hal j9 (by omega))), if_neg (by omega)]; exact ⟨rfl, h9.1, hRo.scr.c.tr h9.2⟩))
                · have h13 : 4 * j < 4 * ((rdT X.2.2.2).2.1) := Nat.lt_of_not_le (fun q9 => h13 ((nI_leI (a := 4 * ((rdT X.2.2.2).2.1)) (b := 4 * j) (by omega) (by omega)).mpr q9))
                  refine lv_aload_n hx hy dX6_readCircuit_78 rfl (lv_at hl 1 rfl) ?_
                  refine lv_aload_n hx hy dX6_readCircuit_79 rfl (lv_at hl 1 rfl) ?_
                  refine gX6_read F hI L_X6_38 dX6_readCircuit_80 ?_
                  refine lv_iload_n hx hy dX6_readCircuit_83 rfl (lv_at hl 0 rfl) ?_
                  refine aIlN F hI iX6_read (i := 4 * j) (by omega) (by decide) dX6_readCircuit_84 ?_
                  refine tI (show _ = c 49 (4 * j) from rfl) ?_
                  refine tI ((hoc _ _ (by decide)).trans (hlr j (by omega)).1) ?_
                  refine lv_aload_n hx hy dX6_readCircuit_85 rfl (lv_at hl 1 rfl) ?_
                  refine gX6_read F hI L_X6_38 dX6_readCircuit_86 ?_
                  refine lv_iload_n hx hy dX6_readCircuit_89 rfl (lv_at hl 0 rfl) ?_
                  refine lv_iconst (v := nI 1) hx hy dX6_readCircuit_90 (by decide) ?_
                  refine lv_iadd hx hy dX6_readCircuit_91 ?_
                  refine tI (nI_add (4 * j) (1)) ?_
                  refine aIlN F hI iX6_read (i := 4 * j + 1) (by omega) (by decide) dX6_readCircuit_92 ?_
                  refine tI (show _ = c 49 (4 * j + 1) from rfl) ?_
                  refine tI ((hoc _ _ (by decide)).trans (hlr j (by omega)).2.1) ?_
                  refine lv_aload_n hx hy dX6_readCircuit_93 rfl (lv_at hl 1 rfl) ?_
                  refine gX6_read F hI L_X6_38 dX6_readCircuit_94 ?_
                  refine lv_iload_n hx hy dX6_readCircuit_97 rfl (lv_at hl 0 rfl) ?_
                  refine lv_iconst (v := nI 2) hx hy dX6_readCircuit_98 (by decide) ?_
                  refine lv_iadd hx hy dX6_readCircuit_99 ?_
                  refine tI (nI_add (4 * j) (2)) ?_
                  refine aIlN F hI iX6_read (i := 4 * j + 2) (by omega) (by decide) dX6_readCircuit_100 ?_
                  refine tI (show _ = c 49 (4 * j + 2) from rfl) ?_
                  refine tI ((hoc _ _ (by decide)).trans (hlr j (by omega)).2.2.1) ?_
                  refine lv_aload_n hx hy dX6_readCircuit_101 rfl (lv_at hl 1 rfl) ?_
                  refine gX6_read F hI L_X6_38 dX6_readCircuit_102 ?_
                  refine lv_iload_n hx hy dX6_readCircuit_105 rfl (lv_at hl 0 rfl) ?_
                  refine lv_iconst (v := nI 3) hx hy dX6_readCircuit_106 (by decide) ?_
                  refine lv_iadd hx hy dX6_readCircuit_107 ?_
                  refine tI (nI_add (4 * j) (3)) ?_
                  refine aIlN F hI iX6_read (i := 4 * j + 3) (by omega) (by decide) dX6_readCircuit_108 ?_
                  refine tI (show _ = c 49 (4 * j + 3) from rfl) ?_
                  refine tI ((hoc _ _ (by decide)).trans (hlr j (by omega)).2.2.2) ?_
                  refine zV hI (xV F hI hl (kX6_puts l E ((c, u.2)) (n := (X.1.1 + j)) hrow.1 (by omega) (nI (((rdT X.2.2.2).2.2 j).1)) (wM ((rdT X.2.2.2).2.2 j) 1) (wM ((rdT X.2.2.2).2.2 j) 2) (wM ((rdT X.2.2.2).2.2 j) 3)) M_X6_73 (rX6 F hI) rfl ⟨Nat.le_of_ble_eq_true rfl, Nat.le_of_ble_eq_true rfl⟩ ⟨Nat.zero_le _, Nat.zero_le _⟩ rfl (Nat.le_of_ble_eq_true rfl) dX6_readCircuit_109) (fun v19 H locs hI hp17 => ?_)
                  subst hp17
                  obtain ⟨c20, ec20⟩ : ∃ z9 : CF, z9 = putC (X.1.1 + j) (nI (((rdT X.2.2.2).2.2 j).1)) (wM ((rdT X.2.2.2).2.2 j) 1) (wM ((rdT X.2.2.2).2.2 j) 2) (wM ((rdT X.2.2.2).2.2 j) 3) c := ⟨_, rfl⟩
                  have hI : Iv E s H locs (c20, u.2) := by rw [ec20]; exact hI
                  refine lv_iinc (v := nI (4 * j + 4)) (lv' := [(2, .int (nI (4 * j + 4))), (0, .ref (eA E 48))]) hx hy dX6_readCircuit_112 hl (k := 0) rfl (nI_add (4 * j) 4) (by decide) rfl (fun ls hl => ?_)
                  refine lv_goto (tgt := 68) hx hy dX6_readCircuit_115 (by decide) ?_
                  exact ih_68 (j + 1) c20 (by omega) (by omega) (app_row hrow ec20) (fun q i h9 => by rw [ec20]; exact (putC_oth q i h9).trans (hoc q i h9)) _ _ _ hI (lv_sub hl [0, 1] rfl)
            exact lp12 ((rdT X.2.2.2).2.1 + 1) 0 v11 (by omega) (by omega) (app_start _ hA1) (fun _ _ _ => rfl) _ _ _ hI (lv_sub hl [0, 1] rfl)
          · have h8 : 16 < X.1.1 + (rdT X.2.2.2).2.1 := Nat.lt_of_not_le (fun q9 => h8 ((nI_leI (a := X.1.1 + (rdT X.2.2.2).2.1) (b := 16) (by omega) (by omega)).mpr q9))
            refine zc F K_X6_69 dX6_readCircuit_59 ?_
            exact rI hQ F (v := (v3, u.2)) hI dX6_readCircuit_61 (by rw [a_read, hrn]; exact (show _ = (if _ then _ else if _ then _ else _ : Int32 × XS).1 ∧ RepM _ (if _ then _ else if _ then _ else _ : Int32 × XS).2 ∧ _ from by rw [if_neg (fun q9 => q9 (fun j9 hj9 => hal j9 (by omega))), if_pos (by omega)]; exact ⟨rfl, ScrM.rep hC hX hRo.scr, hRo.scr.c⟩))
        · have h7 : k < (rdT X.2.2.2).2.1 := Nat.lt_of_not_le (fun q9 => h7 ((nI_leI (a := (rdT X.2.2.2).2.1) (b := k) (by omega) (by omega)).mpr q9))
          refine lv_aload_n hx hy dX6_readCircuit_26 rfl (lv_at hl 1 rfl) ?_
          refine lv_iload_n hx hy dX6_readCircuit_27 rfl (lv_at hl 0 rfl) ?_
          refine zI hI (xV F hI hl (kX6_isAhead l E ((v3, u.2)) hAv.1 hn16 hlm hm14 hgr k (by omega)) M_X6_187 (rX6 F hI) rfl ⟨Nat.le_of_ble_eq_true rfl, Nat.le_of_ble_eq_true rfl⟩ ⟨Nat.zero_le _, Nat.zero_le _⟩ rfl (Nat.le_of_ble_eq_true rfl) dX6_readCircuit_28) (fun r22 v23 H locs hI hp21 => ?_)
          by_cases hah : ahd X.1.1 (rdT X.2.2.2).2.2 k
          · rw [if_pos hah] at hp21
            subst hp21
            refine lv_if_ne (tgt := 37) hx hy dX6_readCircuit_31 (by decide) (fun _ => ?_) (fun q => absurd q (by decide))
            refine lv_iinc (v := nI (k + 1)) (lv' := [(2, .int (nI (k + 1))), (0, .ref (eA E 48))]) hx hy dX6_readCircuit_37 hl (k := 0) rfl (nI_add (k) 1) (by decide) rfl (fun ls hl => ?_)
            refine lv_goto (tgt := 18) hx hy dX6_readCircuit_40 (by decide) ?_
            exact ih_18 (k + 1) (by omega) (by omega) (fun j hj => by rcases Nat.lt_or_ge j k with q9 | q9; exact hal j q9; rw [show j = k from by omega]; exact hah) _ _ _ hI (lv_sub hl [0, 1] rfl)
          · rw [if_neg hah] at hp21
            subst hp21
            refine lv_if_ne (tgt := 37) hx hy dX6_readCircuit_31 (by decide) (fun q => absurd q (by decide)) (fun _ => ?_)
            refine zc F K_X6_95 dX6_readCircuit_34 ?_
            exact rI hQ F (v := (v3, u.2)) hI dX6_readCircuit_36 (by rw [a_read, hrn]; exact (show _ = (if _ then _ else if _ then _ else _ : Int32 × XS).1 ∧ RepM _ (if _ then _ else if _ then _ else _ : Int32 × XS).2 ∧ _ from by rw [if_pos (fun q9 => hah (q9 k (by omega)))]; exact ⟨rfl, ScrM.rep hC hX hRo.scr, hRo.scr.c⟩))
    exact lp6 ((rdT X.2.2.2).2.1 + 1) 0 (by omega) (by omega) (fun j hj => absurd hj (Nat.not_lt_zero j)) _ _ _ hI (lv_sub hl [0, 2] rfl)
  · obtain ⟨pf, hrn, hr9⟩ := hFr
    subst hr9
    refine tI (show _ = nI pf from rfl) ?_
    refine lv_istore_n (lv' := [(1, .int (nI pf)), (0, .ref (eA E 48))]) hx hy dX6_readCircuit_4 rfl hl (by decide) rfl (fun ls hl => ?_)
    refine lv_iload_n hx hy dX6_readCircuit_5 rfl (lv_at hl 0 rfl) ?_
    refine zc F K_X6_85 dX6_readCircuit_6 ?_
    refine lv_icmp_eq (tgt := 16) hx hy dX6_readCircuit_8 (by decide) (fun q => absurd q (nI_NON (by have h9 := pf_lt hrn; omega))) (fun h24 => ?_)
    refine zc F K_X6_186 dX6_readCircuit_11 ?_
    refine lv_iload_n hx hy dX6_readCircuit_13 rfl (lv_at hl 0 rfl) ?_
    refine lv_isub hx hy dX6_readCircuit_14 ?_
    exact rI hQ F (v := (v3, u.2)) hI dX6_readCircuit_15 (by rw [a_read, hrn]; exact ⟨rfl, ScrM.rep hC hX hRo.scr, hRo.scr.c⟩)
