set_option maxHeartbeats 400000 in
set_option maxRecDepth 100000 in
theorem kX6_in (l : Launch) (E : EV) (u : SS) (x y z : Int64) : CT l yX6_in cX6_in 6 (some .boolean) (Rm 0 0) [.long (x), .long (y), .long (z)] E u (Q_i E (fun r _ => r = if y ≤ x ∧ x ≤ z then 1 else 0) (fun (_ : Unit) => u)) := by
  refine mstart RX6 (by decide +kernel) rfl (Nat.le_of_ble_eq_true rfl) ?_
  intro p e s m args below meth co ls Q hQ F hI hl
  have hx := F.1
  have hy := F.2.1
  have hl : lv_has ls 6 [(0, .long (x)), (2, .long (y)), (4, .long (z))] := hl
  refine lv_lload_n hx hy dX6_in_0 rfl (lv_at hl 0 rfl) ?_
  refine lv_lload_n hx hy dX6_in_1 rfl (lv_at hl 1 rfl) ?_
  refine W.lcmp hx hy dX6_in_2 ?_
  refine lv_if_lt (tgt := 17) hx hy dX6_in_3 (by decide) (fun h1 => ?_) (fun h1 => ?_)
  · have h1 := (lg_cmp_lt _ _).mp h1
    refine lv_iconst (v := nI 0) hx hy dX6_in_17 (by decide) ?_
    exact rZ hQ F (v := ()) rfl hI dX6_in_18 (if_neg (fun q9 => absurd h1 (Int64.not_lt.mpr q9.1))).symm
  · have h1 := fun q9 => h1 ((lg_cmp_lt _ _).mpr q9)
    refine lv_lload_n hx hy dX6_in_6 rfl (lv_at hl 0 rfl) ?_
    refine lv_lload hx hy dX6_in_7 (lv_at hl 2 rfl) ?_
    refine W.lcmp hx hy dX6_in_9 ?_
    refine lv_if_gt (tgt := 17) hx hy dX6_in_10 (by decide) (fun h2 => ?_) (fun h2 => ?_)
    · have h2 := (lg_cmp_gt _ _).mp h2
      refine lv_iconst (v := nI 0) hx hy dX6_in_17 (by decide) ?_
      exact rZ hQ F (v := ()) rfl hI dX6_in_18 (if_neg (fun q9 => absurd h2 (Int64.not_lt.mpr q9.2))).symm
    · have h2 := fun q9 => h2 ((lg_cmp_gt _ _).mpr q9)
      refine lv_iconst (v := nI 1) hx hy dX6_in_13 (by decide) ?_
      refine lv_goto (tgt := 18) hx hy dX6_in_14 (by decide) ?_
      exact rZ hQ F (v := ()) rfl hI dX6_in_18 (if_pos ⟨Int64.not_lt.mp h1, Int64.not_lt.mp h2⟩).symm
set_option maxHeartbeats 400000 in
set_option maxRecDepth 100000 in
theorem kX6_isLine (l : Launch) (E : EV) (u : SS) {n : Nat} (hn : u.1 41 0 = nI n) (hn2 : n < 2 ^ 30) (x : Int32) : CT l yX6_isLine cX6_isLine 2 (some .boolean) (Rm 1 25) [.ref (eA E 48), .int (x)] E u (Q_i E (fun r _ => r = if (ixO n x).isSome = true then 1 else 0) (fun (_ : Unit) => u)) := by
  refine mstart RX6 (by decide +kernel) rfl (Nat.le_of_ble_eq_true rfl) ?_
  intro p e s m args below meth co ls Q hQ F hI hl
  have hx := F.1
  have hy := F.2.1
  have hl : lv_has ls 2 [(0, .ref (eA E 48)), (1, .int (x))] := hl
  refine lv_iload_n hx hy dX6_isLine_0 rfl (lv_at hl 1 rfl) ?_
  refine lv_i2l (v := Int32.toInt64 x) hx hy dX6_isLine_1 rfl ?_
  refine lv_lconst (v := lN 0) hx hy dX6_isLine_2 (by decide) ?_
  refine lv_aload_n hx hy dX6_isLine_3 rfl (lv_at hl 0 rfl) ?_
  refine gX6_all F hI L_X6_7 dX6_isLine_4 ?_
  refine lv_iconst (v := nI 0) hx hy dX6_isLine_7 (by decide) ?_
  refine aIlN F hI iX6_all (i := 0) (by omega) (by decide) dX6_isLine_8 ?_
  refine tI hn ?_
  refine lv_i2l (v := lN (n)) hx hy dX6_isLine_9 (nI_l (by omega)) ?_
  refine lv_lconst (v := lN 1) hx hy dX6_isLine_10 (by decide) ?_
  refine lv_lsub hx hy dX6_isLine_11 ?_
  refine zI hI (xS F hI hl (kX6_in l E (u) (Int32.toInt64 x) (lN 0) ((lN (n)) - (lN 1))) M_X6_65 rfl ⟨Nat.le_of_ble_eq_true rfl, Nat.le_of_ble_eq_true rfl⟩ ⟨Nat.zero_le _, Nat.zero_le _⟩ rfl (Nat.le_of_ble_eq_true rfl) dX6_isLine_12) (fun r2 v3 H locs hI hp1 => ?_)
  subst hp1
  exact rZ hQ F (v := ()) (by split <;> rfl) hI dX6_isLine_15 (by simp only [in_ix hn2])
set_option maxHeartbeats 400000 in
set_option maxRecDepth 100000 in
theorem kX6_of (l : Launch) (E : EV) (u : SS) (j k : Nat) (hj : j < 16) (hk : k < 4) : CT l yX6_of cX6_of 3 (some .int) (Rm 0 0) [.ref (eA E 48), .int (nI j), .int (nI k)] E u (Q_i E (fun r _ => r = u.1 41 (2 + 4 * j + k)) (fun (_ : Unit) => u)) := by
  refine mstart RX6 (by decide +kernel) rfl (Nat.le_of_ble_eq_true rfl) ?_
  intro p e s m args below meth co ls Q hQ F hI hl
  have hx := F.1
  have hy := F.2.1
  have hl : lv_has ls 3 [(0, .ref (eA E 48)), (1, .int (nI j)), (2, .int (nI k))] := hl
  refine lv_aload_n hx hy dX6_of_0 rfl (lv_at hl 0 rfl) ?_
  refine gX6_all F hI L_X6_7 dX6_of_1 ?_
  refine lv_iconst (v := nI 2) hx hy dX6_of_4 (by decide) ?_
  refine lv_iconst (v := nI 4) hx hy dX6_of_5 (by decide) ?_
  refine lv_iload_n hx hy dX6_of_6 rfl (lv_at hl 1 rfl) ?_
  refine lv_imul hx hy dX6_of_7 ?_
  refine tI (pk_mul (4) (j)) ?_
  refine lv_iadd hx hy dX6_of_8 ?_
  refine tI (nI_add (2) (4 * j)) ?_
  refine lv_iload_n hx hy dX6_of_9 rfl (lv_at hl 2 rfl) ?_
  refine lv_iadd hx hy dX6_of_10 ?_
  refine tI (nI_add (2 + 4 * j) (k)) ?_
  refine aIlN F hI iX6_all (i := 2 + 4 * j + k) (by omega) (by decide) dX6_of_11 ?_
  exact rI hQ F (v := ()) hI dX6_of_12 rfl
set_option maxHeartbeats 400000 in
set_option maxRecDepth 100000 in
theorem kX6_linesBy (l : Launch) (E : EV) (u : SS) (k : Nat) (hk : k < 7) : CT l yX6_linesBy cX6_linesBy 1 (some .int) (Rm 0 0) [.int (nI k)] E u (Q_i E (fun r _ => r = nI (nlK k)) (fun (_ : Unit) => u)) := by
  refine mstart RX6 (by decide +kernel) rfl (Nat.le_of_ble_eq_true rfl) ?_
  intro p e s m args below meth co ls Q hQ F hI hl
  have hx := F.1
  have hy := F.2.1
  have hl : lv_has ls 1 [(0, .int (nI k))] := hl
  refine lv_iload_n hx hy dX6_linesBy_0 rfl (lv_at hl 0 rfl) ?_
  refine lv_if_ne (tgt := 8) hx hy dX6_linesBy_1 (by decide) (fun h1 => ?_) (fun h1 => ?_)
  · have h1 : k ≠ 0 := fun q9 => h1 ((nI_eq (a := k) (b := 0) (by omega) (by omega)).mpr q9)
    refine lv_iload_n hx hy dX6_linesBy_8 rfl (lv_at hl 0 rfl) ?_
    refine lv_iconst (v := nI 4) hx hy dX6_linesBy_9 (by decide) ?_
    refine lv_icmp_ne (tgt := 17) hx hy dX6_linesBy_10 (by decide) (fun h2 => ?_) (fun h2 => ?_)
    · have h2 : k ≠ 4 := fun q9 => h2 ((nI_eq (a := k) (b := 4) (by omega) (by omega)).mpr q9)
      refine lv_iload_n hx hy dX6_linesBy_17 rfl (lv_at hl 0 rfl) ?_
      refine lv_iconst (v := nI 4) hx hy dX6_linesBy_18 (by decide) ?_
      refine lv_icmp_ge (tgt := 26) hx hy dX6_linesBy_19 (by decide) (fun h3 => ?_) (fun h3 => ?_)
      · have h3 : 4 ≤ k := (nI_leI (a := 4) (b := k) (by omega) (by omega)).mp h3
        refine lv_iconst (v := nI 1) hx hy dX6_linesBy_26 (by decide) ?_
        exact rI hQ F (v := ()) hI dX6_linesBy_27 (by rcases (show k = 0 ∨ k = 1 ∨ k = 2 ∨ k = 3 ∨ k = 4 ∨ k = 5 ∨ k = 6 by omega) with rfl | rfl | rfl | rfl | rfl | rfl | rfl <;> first | rfl | (exfalso; omega))
      · have h3 : k < 4 := Nat.lt_of_not_le (fun q9 => h3 ((nI_leI (a := 4) (b := k) (by omega) (by omega)).mpr q9))
        refine lv_iconst (v := nI 2) hx hy dX6_linesBy_22 (by decide) ?_
        refine lv_goto (tgt := 27) hx hy dX6_linesBy_23 (by decide) ?_
        exact rI hQ F (v := ()) hI dX6_linesBy_27 (by rcases (show k = 0 ∨ k = 1 ∨ k = 2 ∨ k = 3 ∨ k = 4 ∨ k = 5 ∨ k = 6 by omega) with rfl | rfl | rfl | rfl | rfl | rfl | rfl <;> first | rfl | (exfalso; omega))
    · have h2 : k = 4 := (nI_eq (a := k) (b := 4) (by omega) (by omega)).mp h2
      refine lv_iconst (v := nI 3) hx hy dX6_linesBy_13 (by decide) ?_
      refine lv_goto (tgt := 27) hx hy dX6_linesBy_14 (by decide) ?_
      exact rI hQ F (v := ()) hI dX6_linesBy_27 (by rcases (show k = 0 ∨ k = 1 ∨ k = 2 ∨ k = 3 ∨ k = 4 ∨ k = 5 ∨ k = 6 by omega) with rfl | rfl | rfl | rfl | rfl | rfl | rfl <;> first | rfl | (exfalso; omega))
  · have h1 : k = 0 := (nI_eq (a := k) (b := 0) (by omega) (by omega)).mp h1
    refine lv_iconst (v := nI 0) hx hy dX6_linesBy_4 (by decide) ?_
    refine lv_goto (tgt := 27) hx hy dX6_linesBy_5 (by decide) ?_
    exact rI hQ F (v := ()) hI dX6_linesBy_27 (by rcases (show k = 0 ∨ k = 1 ∨ k = 2 ∨ k = 3 ∨ k = 4 ∨ k = 5 ∨ k = 6 by omega) with rfl | rfl | rfl | rfl | rfl | rfl | rfl <;> first | rfl | (exfalso; omega))
set_option maxHeartbeats 400000 in
set_option maxRecDepth 100000 in
theorem kX6_remember (l : Launch) (E : EV) (u : SS) : CT l yX6_remember cX6_remember 2 none (Rm 0 0) [.ref (eA E 48)] E u (Q_v E (fun c => CpyR 42 0 41 0 66 u.1 c) (fun (c : CF) => (c, u.2))) := by
  refine mstart RX6 (by decide +kernel) rfl (Nat.le_of_ble_eq_true rfl) ?_
  intro p e s m args below meth co ls Q hQ F hI hl
  have hx := F.1
  have hy := F.2.1
  have hl : lv_has ls 2 [(0, .ref (eA E 48))] := hl
  refine lv_iconst (v := nI 0) hx hy dX6_remember_0 (by decide) ?_
  refine lv_istore_n (lv' := [(1, .int (nI 0)), (0, .ref (eA E 48))]) hx hy dX6_remember_1 rfl hl (by decide) rfl (fun ls hl => ?_)
  have lp1 : ∀ (fu : Nat) (k : Nat) (c : CF), (k ≤ 66) → (66 - k < fu) → (CpyR 42 0 41 0 k u.1 c) →  ∀ (H : Heap) (locs : List Loc) (ls : Array Slot), Iv E s H locs ((c, u.2)) → lv_has ls 2 [(1, .int (nI k)), (0, .ref (eA E 48))] → W p l e (Rm 0 0) s m args below meth co H locs 0 0 Q (F0 m 2 ls []) := by
    intro fu
    induction fu with
    | zero => intro k c hk hf hCp; exact absurd hf (Nat.not_lt_zero _)
    | succ fu ih =>
      intro k c hk hf hCp H locs ls hI hl
      have ih_2 := ih
      refine lv_iload_n hx hy dX6_remember_2 rfl (lv_at hl 0 rfl) ?_
      refine lv_bipush (v := nI 66) hx hy dX6_remember_3 (by decide) ?_
      refine lv_icmp_ge (tgt := 26) hx hy dX6_remember_5 (by decide) (fun h2 => ?_) (fun h2 => ?_)
      · have h2 : 66 ≤ k := (nI_leI (a := 66) (b := k) (by omega) (by omega)).mp h2
        exact rV hQ F (v := c) hI dX6_remember_26 (by have e9 : k = 66 := (by omega); rw [← e9]; exact hCp)
      · have h2 : k < 66 := Nat.lt_of_not_le (fun q9 => h2 ((nI_leI (a := 66) (b := k) (by omega) (by omega)).mpr q9))
        refine lv_aload_n hx hy dX6_remember_8 rfl (lv_at hl 1 rfl) ?_
        refine gX6_kept F hI L_X6_13 dX6_remember_9 ?_
        refine lv_iload_n hx hy dX6_remember_12 rfl (lv_at hl 0 rfl) ?_
        refine lv_aload_n hx hy dX6_remember_13 rfl (lv_at hl 1 rfl) ?_
        refine gX6_all F hI L_X6_7 dX6_remember_14 ?_
        refine lv_iload_n hx hy dX6_remember_17 rfl (lv_at hl 0 rfl) ?_
        refine aIlN F hI iX6_all (i := k) (by omega) (by decide) dX6_remember_18 ?_
        refine tI (show _ = c 41 k from rfl) ?_
        refine aIsN F hI iX6_kept (i := k) (by omega) (by decide) dX6_remember_19 (fun H locs hI => ?_)
        obtain ⟨c3, ec3⟩ : ∃ z9 : CF, z9 = up c 42 k (c 41 k) := ⟨_, rfl⟩
        have hI : Iv E s H locs (c3, u.2) := by rw [ec3]; exact hI
        refine lv_iinc (v := nI (k + 1)) (lv' := [(1, .int (nI (k + 1))), (0, .ref (eA E 48))]) hx hy dX6_remember_20 hl (k := 0) rfl (nI_add (k) 1) (by decide) rfl (fun ls hl => ?_)
        refine lv_goto (tgt := 2) hx hy dX6_remember_23 (by decide) ?_
        exact ih_2 (k + 1) c3 (by omega) (by omega) (hCp.step (Or.inl (by decide)) (by rw [ec3]; simp only [Nat.zero_add])) _ _ _ hI (lv_sub hl [0, 1] rfl)
  exact lp1 67 0 u.1 (by omega) (by omega) (CpyR.start _ _ _ _ _) _ _ _ hI (lv_sub hl [0, 1] rfl)
