set_option maxHeartbeats 400000 in
set_option maxRecDepth 100000 in
theorem kX6_acted (l : Launch) (E : EV) (u : SS) {h : Nat} (hh : u.1 40 0 = nI h) (h4 : h ≤ 4) (r0 : Int32) : CT l yX6_acted cX6_acted 3 (some .int) (Rm 0 0) [.ref (eA E 48), .int (r0)] E u (Q_i E (fun r c => r = r0 ∧ ActP h u.1 c) (fun (c : CF) => (c, u.2))) := by
  refine mstart RX6 (by decide +kernel) rfl (Nat.le_of_ble_eq_true rfl) ?_
  intro p e s m args below meth co ls Q hQ F hI hl
  have hx := F.1
  have hy := F.2.1
  have hl : lv_has ls 3 [(0, .ref (eA E 48)), (1, .int (r0))] := hl
  refine lv_aload_n hx hy dX6_acted_0 rfl (lv_at hl 0 rfl) ?_
  refine gX6_historyLong F hI L_X6_61 dX6_acted_1 ?_
  refine tI hh ?_
  refine lv_iconst (v := nI 4) hx hy dX6_acted_4 (by decide) ?_
  refine lv_icmp_ne (tgt := 48) hx hy dX6_acted_5 (by decide) (fun h1 => ?_) (fun h1 => ?_)
  · have h1 : h ≠ 4 := fun q9 => h1 ((nI_eq (a := h) (b := 4) (by omega) (by omega)).mpr q9)
    refine lv_iconst (v := nI 0) hx hy dX6_acted_48 (by decide) ?_
    refine lv_istore_n (lv' := [(2, .int (nI 0)), (0, .ref (eA E 48)), (1, .int (r0))]) hx hy dX6_acted_49 rfl hl (by decide) rfl (fun ls hl => ?_)
    have lp2 : ∀ (fu : Nat) (k : Nat) (c2 : CF), (k ≤ 66) → (66 - k < fu) → (CpyR 43 (66 * h) 42 0 k u.1 c2) →  ∀ (H : Heap) (locs : List Loc) (ls : Array Slot), Iv E s H locs ((c2, u.2)) → lv_has ls 3 [(2, .int (nI k)), (0, .ref (eA E 48)), (1, .int (r0))] → W p l e (Rm 0 0) s m args below meth co H locs 0 0 Q (F0 m 50 ls []) := by
      intro fu
      induction fu with
      | zero => intro k c2 hk hf hCp2; exact absurd hf (Nat.not_lt_zero _)
      | succ fu ih =>
        intro k c2 hk hf hCp2 H locs ls hI hl
        have ih_50 := ih
        refine lv_iload_n hx hy dX6_acted_50 rfl (lv_at hl 0 rfl) ?_
        refine lv_bipush (v := nI 66) hx hy dX6_acted_51 (by decide) ?_
        refine lv_icmp_ge (tgt := 82) hx hy dX6_acted_53 (by decide) (fun h3 => ?_) (fun h3 => ?_)
        · have h3 : 66 ≤ k := (nI_leI (a := 66) (b := k) (by omega) (by omega)).mp h3
          refine lv_aload_n hx hy dX6_acted_82 rfl (lv_at hl 1 rfl) ?_
          refine lv_dup hx hy dX6_acted_83 rfl ?_
          refine gX6_historyLong F hI L_X6_61 dX6_acted_84 ?_
          refine tI (show _ = c2 40 0 from rfl) ?_
          refine tI ((hCp2.2 _ _ (by omega)).trans hh) ?_
          refine lv_iconst (v := nI 1) hx hy dX6_acted_87 (by decide) ?_
          refine lv_iadd hx hy dX6_acted_88 ?_
          refine tI (nI_add (h) (1)) ?_
          refine pX6_historyLong F hI L_X6_61 dX6_acted_89 (fun H locs hI => ?_)
          obtain ⟨c4, ec4⟩ : ∃ z9 : CF, z9 = up c2 40 0 (nI (h + 1)) := ⟨_, rfl⟩
          have hI : Iv E s H locs (c4, u.2) := by rw [ec4]; exact hI
          refine lv_iload_n hx hy dX6_acted_92 rfl (lv_at hl 2 rfl) ?_
          exact rI hQ F (v := c4) hI dX6_acted_93 (by have e9 : k = 66 := (by omega); rw [e9] at hCp2; exact ⟨rfl, act_lo (by omega) hCp2 ec4⟩)
        · have h3 : k < 66 := Nat.lt_of_not_le (fun q9 => h3 ((nI_leI (a := 66) (b := k) (by omega) (by omega)).mpr q9))
          refine lv_aload_n hx hy dX6_acted_56 rfl (lv_at hl 1 rfl) ?_
          refine gX6_history F hI L_X6_16 dX6_acted_57 ?_
          refine lv_bipush (v := nI 66) hx hy dX6_acted_60 (by decide) ?_
          refine lv_aload_n hx hy dX6_acted_62 rfl (lv_at hl 1 rfl) ?_
          refine gX6_historyLong F hI L_X6_61 dX6_acted_63 ?_
          refine tI (show _ = c2 40 0 from rfl) ?_
          refine tI ((hCp2.2 _ _ (by omega)).trans hh) ?_
          refine lv_imul hx hy dX6_acted_66 ?_
          refine tI (pk_mul (66) (h)) ?_
          refine lv_iload_n hx hy dX6_acted_67 rfl (lv_at hl 0 rfl) ?_
          refine lv_iadd hx hy dX6_acted_68 ?_
          refine tI (nI_add (66 * h) (k)) ?_
          refine lv_aload_n hx hy dX6_acted_69 rfl (lv_at hl 1 rfl) ?_
          refine gX6_kept F hI L_X6_13 dX6_acted_70 ?_
          refine lv_iload_n hx hy dX6_acted_73 rfl (lv_at hl 0 rfl) ?_
          refine aIlN F hI iX6_kept (i := k) (by omega) (by decide) dX6_acted_74 ?_
          refine tI (show _ = c2 42 k from rfl) ?_
          refine aIsN F hI iX6_history (i := 66 * h + k) (by omega) (by decide) dX6_acted_75 (fun H locs hI => ?_)
          obtain ⟨c5, ec5⟩ : ∃ z9 : CF, z9 = up c2 43 (66 * h + k) (c2 42 k) := ⟨_, rfl⟩
          have hI : Iv E s H locs (c5, u.2) := by rw [ec5]; exact hI
          have kf6 : c5 40 0 = nI h := by rw [ec5, up_at, if_neg (by omega)]; exact ((hCp2.2 _ _ (by omega)).trans hh)
          refine lv_iinc (v := nI (k + 1)) (lv' := [(2, .int (nI (k + 1))), (0, .ref (eA E 48)), (1, .int (r0))]) hx hy dX6_acted_76 hl (k := 0) rfl (nI_add (k) 1) (by decide) rfl (fun ls hl => ?_)
          refine lv_goto (tgt := 50) hx hy dX6_acted_79 (by decide) ?_
          exact ih_50 (k + 1) c5 (by omega) (by omega) (hCp2.step (Or.inl (by decide)) (by rw [ec5]; simp only [Nat.zero_add])) _ _ _ hI (lv_sub hl [0, 1, 2] rfl)
    exact lp2 67 0 u.1 (by omega) (by omega) (CpyR.start _ _ _ _ _) _ _ _ hI (lv_sub hl [0, 1, 2] rfl)
  · have h1 : h = 4 := (nI_eq (a := h) (b := 4) (by omega) (by omega)).mp h1
    refine lv_iconst (v := nI 0) hx hy dX6_acted_8 (by decide) ?_
    refine lv_istore_n (lv' := [(2, .int (nI 0)), (0, .ref (eA E 48)), (1, .int (r0))]) hx hy dX6_acted_9 rfl hl (by decide) rfl (fun ls hl => ?_)
    have lp7 : ∀ (fu : Nat) (k : Nat) (c : CF), (k ≤ 198) → (198 - k < fu) → (CpyR 43 0 43 66 k u.1 c) →  ∀ (H : Heap) (locs : List Loc) (ls : Array Slot), Iv E s H locs ((c, u.2)) → lv_has ls 3 [(2, .int (nI k)), (0, .ref (eA E 48)), (1, .int (r0))] → W p l e (Rm 0 0) s m args below meth co H locs 0 0 Q (F0 m 10 ls []) := by
      intro fu
      induction fu with
      | zero => intro k c hk hf hCp1; exact absurd hf (Nat.not_lt_zero _)
      | succ fu ih =>
        intro k c hk hf hCp1 H locs ls hI hl
        have ih_10 := ih
        refine lv_iload_n hx hy dX6_acted_10 rfl (lv_at hl 0 rfl) ?_
        refine lv_sipush (v := nI 198) hx hy dX6_acted_11 (by decide) ?_
        refine lv_icmp_ge (tgt := 38) hx hy dX6_acted_14 (by decide) (fun h8 => ?_) (fun h8 => ?_)
        · have h8 : 198 ≤ k := (nI_leI (a := 198) (b := k) (by omega) (by omega)).mp h8
          have hCp1f : CpyR 43 0 43 66 198 u.1 c := by rw [show 198 = k from by omega]; exact hCp1
          refine lv_aload_n hx hy dX6_acted_38 rfl (lv_at hl 1 rfl) ?_
          refine lv_dup hx hy dX6_acted_39 rfl ?_
          refine gX6_historyLong F hI L_X6_61 dX6_acted_40 ?_
          refine tI (show _ = c 40 0 from rfl) ?_
          refine tI ((hCp1.2 _ _ (by omega)).trans hh) ?_
          refine lv_iconst (v := nI 1) hx hy dX6_acted_43 (by decide) ?_
          refine lv_isub hx hy dX6_acted_44 ?_
          refine tI (pk_sub (a := h) (b := 1) (by omega)) ?_
          refine pX6_historyLong F hI L_X6_61 dX6_acted_45 (fun H locs hI => ?_)
          obtain ⟨c9, ec9⟩ : ∃ z9 : CF, z9 = up c 40 0 (nI (h - 1)) := ⟨_, rfl⟩
          have hI : Iv E s H locs (c9, u.2) := by rw [ec9]; exact hI
          refine lv_iconst (v := nI 0) hx hy dX6_acted_48 (by decide) ?_
          refine lv_istore_n (lv' := [(2, .int (nI 0)), (0, .ref (eA E 48)), (1, .int (r0))]) hx hy dX6_acted_49 rfl hl (by decide) rfl (fun ls hl => ?_)
          have lp10 : ∀ (fu : Nat) (k : Nat) (c2 : CF), (k ≤ 66) → (66 - k < fu) → (CpyR 43 (66 * (h - 1)) 42 0 k c9 c2) →  ∀ (H : Heap) (locs : List Loc) (ls : Array Slot), Iv E s H locs ((c2, u.2)) → lv_has ls 3 [(2, .int (nI k)), (0, .ref (eA E 48)), (1, .int (r0))] → W p l e (Rm 0 0) s m args below meth co H locs 0 0 Q (F0 m 50 ls []) := by
            intro fu
            induction fu with
            | zero => intro k c2 hk hf hCp2; exact absurd hf (Nat.not_lt_zero _)
            | succ fu ih =>
              intro k c2 hk hf hCp2 H locs ls hI hl
              have ih_50 := ih
              refine lv_iload_n hx hy dX6_acted_50 rfl (lv_at hl 0 rfl) ?_
              refine lv_bipush (v := nI 66) hx hy dX6_acted_51 (by decide) ?_
              refine lv_icmp_ge (tgt := 82) hx hy dX6_acted_53 (by decide) (fun h11 => ?_) (fun h11 => ?_)
              · have h11 : 66 ≤ k := (nI_leI (a := 66) (b := k) (by omega) (by omega)).mp h11
                refine lv_aload_n hx hy dX6_acted_82 rfl (lv_at hl 1 rfl) ?_
                refine lv_dup hx hy dX6_acted_83 rfl ?_
                refine gX6_historyLong F hI L_X6_61 dX6_acted_84 ?_
                refine tI (show _ = c2 40 0 from rfl) ?_
                refine tI ((hCp2.2 _ _ (by omega)).trans (show c9 40 0 = nI (h - 1) by rw [ec9]; exact up_s _ _ _ _)) ?_
                refine lv_iconst (v := nI 1) hx hy dX6_acted_87 (by decide) ?_
                refine lv_iadd hx hy dX6_acted_88 ?_
                refine tI (nI_add (h - 1) (1)) ?_
                refine pX6_historyLong F hI L_X6_61 dX6_acted_89 (fun H locs hI => ?_)
                obtain ⟨c12, ec12⟩ : ∃ z9 : CF, z9 = up c2 40 0 (nI (h - 1 + 1)) := ⟨_, rfl⟩
                have hI : Iv E s H locs (c12, u.2) := by rw [ec12]; exact hI
                refine lv_iload_n hx hy dX6_acted_92 rfl (lv_at hl 2 rfl) ?_
                exact rI hQ F (v := c12) hI dX6_acted_93 (by have e9 : k = 66 := (by omega); rw [e9] at hCp2; exact ⟨rfl, act_hi (by omega) hCp1f ec9 hCp2 ec12⟩)
              · have h11 : k < 66 := Nat.lt_of_not_le (fun q9 => h11 ((nI_leI (a := 66) (b := k) (by omega) (by omega)).mpr q9))
                refine lv_aload_n hx hy dX6_acted_56 rfl (lv_at hl 1 rfl) ?_
                refine gX6_history F hI L_X6_16 dX6_acted_57 ?_
                refine lv_bipush (v := nI 66) hx hy dX6_acted_60 (by decide) ?_
                refine lv_aload_n hx hy dX6_acted_62 rfl (lv_at hl 1 rfl) ?_
                refine gX6_historyLong F hI L_X6_61 dX6_acted_63 ?_
                refine tI (show _ = c2 40 0 from rfl) ?_
                refine tI ((hCp2.2 _ _ (by omega)).trans (show c9 40 0 = nI (h - 1) by rw [ec9]; exact up_s _ _ _ _)) ?_
                refine lv_imul hx hy dX6_acted_66 ?_
                refine tI (pk_mul (66) (h - 1)) ?_
                refine lv_iload_n hx hy dX6_acted_67 rfl (lv_at hl 0 rfl) ?_
                refine lv_iadd hx hy dX6_acted_68 ?_
                refine tI (nI_add (66 * (h - 1)) (k)) ?_
                refine lv_aload_n hx hy dX6_acted_69 rfl (lv_at hl 1 rfl) ?_
                refine gX6_kept F hI L_X6_13 dX6_acted_70 ?_
                refine lv_iload_n hx hy dX6_acted_73 rfl (lv_at hl 0 rfl) ?_
                refine aIlN F hI iX6_kept (i := k) (by omega) (by decide) dX6_acted_74 ?_
                refine tI (show _ = c2 42 k from rfl) ?_
                refine aIsN F hI iX6_history (i := 66 * (h - 1) + k) (by omega) (by decide) dX6_acted_75 (fun H locs hI => ?_)
                obtain ⟨c13, ec13⟩ : ∃ z9 : CF, z9 = up c2 43 (66 * (h - 1) + k) (c2 42 k) := ⟨_, rfl⟩
                have hI : Iv E s H locs (c13, u.2) := by rw [ec13]; exact hI
                refine lv_iinc (v := nI (k + 1)) (lv' := [(2, .int (nI (k + 1))), (0, .ref (eA E 48)), (1, .int (r0))]) hx hy dX6_acted_76 hl (k := 0) rfl (nI_add (k) 1) (by decide) rfl (fun ls hl => ?_)
                refine lv_goto (tgt := 50) hx hy dX6_acted_79 (by decide) ?_
                exact ih_50 (k + 1) c13 (by omega) (by omega) (hCp2.step (Or.inl (by decide)) (by rw [ec13]; simp only [Nat.zero_add])) _ _ _ hI (lv_sub hl [0, 1, 2] rfl)
          exact lp10 67 0 c9 (by omega) (by omega) (CpyR.start _ _ _ _ _) _ _ _ hI (lv_sub hl [0, 1, 2] rfl)
        · have h8 : k < 198 := Nat.lt_of_not_le (fun q9 => h8 ((nI_leI (a := 198) (b := k) (by omega) (by omega)).mpr q9))
          refine lv_aload_n hx hy dX6_acted_17 rfl (lv_at hl 1 rfl) ?_
          refine gX6_history F hI L_X6_16 dX6_acted_18 ?_
          refine lv_iload_n hx hy dX6_acted_21 rfl (lv_at hl 0 rfl) ?_
          refine lv_aload_n hx hy dX6_acted_22 rfl (lv_at hl 1 rfl) ?_
          refine gX6_history F hI L_X6_16 dX6_acted_23 ?_
          refine lv_iload_n hx hy dX6_acted_26 rfl (lv_at hl 0 rfl) ?_
          refine lv_bipush (v := nI 66) hx hy dX6_acted_27 (by decide) ?_
          refine lv_iadd hx hy dX6_acted_29 ?_
          refine tI (nI_add (k) (66)) ?_
          refine aIlN F hI iX6_history (i := k + 66) (by omega) (by decide) dX6_acted_30 ?_
          refine tI (show _ = c 43 (k + 66) from rfl) ?_
          refine aIsN F hI iX6_history (i := k) (by omega) (by decide) dX6_acted_31 (fun H locs hI => ?_)
          obtain ⟨c14, ec14⟩ : ∃ z9 : CF, z9 = up c 43 k (c 43 (k + 66)) := ⟨_, rfl⟩
          have hI : Iv E s H locs (c14, u.2) := by rw [ec14]; exact hI
          refine lv_iinc (v := nI (k + 1)) (lv' := [(2, .int (nI (k + 1))), (0, .ref (eA E 48)), (1, .int (r0))]) hx hy dX6_acted_32 hl (k := 0) rfl (nI_add (k) 1) (by decide) rfl (fun ls hl => ?_)
          refine lv_goto (tgt := 10) hx hy dX6_acted_35 (by decide) ?_
          exact ih_10 (k + 1) c14 (by omega) (by omega) (hCp1.step (Or.inr ⟨by omega, by decide⟩) (by rw [ec14, Nat.zero_add, Nat.add_comm 66 k])) _ _ _ hI (lv_sub hl [0, 1, 2] rfl)
    exact lp7 199 0 u.1 (by omega) (by omega) (CpyR.start _ _ _ _ _) _ _ _ hI (lv_sub hl [0, 1, 2] rfl)
set_option maxHeartbeats 400000 in
set_option maxRecDepth 100000 in
theorem kX6_puts (l : Launch) (E : EV) (u : SS) {n : Nat} (hn : u.1 41 0 = nI n) (h16 : n < 16) (k f s_ t : Int32) : CT l yX6_puts cX6_puts 6 none (Rm 0 0) [.ref (eA E 48), .int (k), .int (f), .int (s_), .int (t)] E u (Q_v E (fun c => c = putC n k f s_ t u.1) (fun (c : CF) => (c, u.2))) := by
  refine mstart RX6 (by decide +kernel) rfl (Nat.le_of_ble_eq_true rfl) ?_
  intro p e s m args below meth co ls Q hQ F hI hl
  have hx := F.1
  have hy := F.2.1
  have hl : lv_has ls 6 [(0, .ref (eA E 48)), (1, .int (k)), (2, .int (f)), (3, .int (s_)), (4, .int (t))] := hl
  refine lv_iconst (v := nI 2) hx hy dX6_puts_0 (by decide) ?_
  refine lv_iconst (v := nI 4) hx hy dX6_puts_1 (by decide) ?_
  refine lv_aload_n hx hy dX6_puts_2 rfl (lv_at hl 0 rfl) ?_
  refine gX6_all F hI L_X6_7 dX6_puts_3 ?_
  refine lv_iconst (v := nI 0) hx hy dX6_puts_6 (by decide) ?_
  refine aIlN F hI iX6_all (i := 0) (by omega) (by decide) dX6_puts_7 ?_
  refine tI hn ?_
  refine lv_imul hx hy dX6_puts_8 ?_
  refine tI (pk_mul (4) (n)) ?_
  refine lv_iadd hx hy dX6_puts_9 ?_
  refine tI (nI_add (2) (4 * n)) ?_
  refine lv_istore (lv' := [(5, .int (nI (2 + 4 * n))), (0, .ref (eA E 48)), (1, .int (k)), (2, .int (f)), (3, .int (s_)), (4, .int (t))]) hx hy dX6_puts_10 hl (by decide) rfl (fun ls hl => ?_)
  refine lv_aload_n hx hy dX6_puts_12 rfl (lv_at hl 1 rfl) ?_
  refine gX6_all F hI L_X6_7 dX6_puts_13 ?_
  refine lv_iload hx hy dX6_puts_16 (lv_at hl 0 rfl) ?_
  refine lv_iload_n hx hy dX6_puts_18 rfl (lv_at hl 2 rfl) ?_
  refine aIsN F hI iX6_all (i := 2 + 4 * n) (by omega) (by decide) dX6_puts_19 (fun H locs hI => ?_)
  obtain ⟨c1, ec1⟩ : ∃ z9 : CF, z9 = up u.1 41 (2 + 4 * n) (k) := ⟨_, rfl⟩
  have hI : Iv E s H locs (c1, u.2) := by rw [ec1]; exact hI
  have kf2 : c1 41 0 = nI n := by rw [ec1, up_at, if_neg (by omega)]; exact hn
  refine lv_aload_n hx hy dX6_puts_20 rfl (lv_at hl 1 rfl) ?_
  refine gX6_all F hI L_X6_7 dX6_puts_21 ?_
  refine lv_iload hx hy dX6_puts_24 (lv_at hl 0 rfl) ?_
  refine lv_iconst (v := nI 1) hx hy dX6_puts_26 (by decide) ?_
  refine lv_iadd hx hy dX6_puts_27 ?_
  refine tI (nI_add (2 + 4 * n) (1)) ?_
  refine lv_iload_n hx hy dX6_puts_28 rfl (lv_at hl 3 rfl) ?_
  refine aIsN F hI iX6_all (i := 2 + 4 * n + 1) (by omega) (by decide) dX6_puts_29 (fun H locs hI => ?_)
  obtain ⟨c3, ec3⟩ : ∃ z9 : CF, z9 = up c1 41 (2 + 4 * n + 1) (f) := ⟨_, rfl⟩
  have hI : Iv E s H locs (c3, u.2) := by rw [ec3]; exact hI
  have kf4 : c3 41 0 = nI n := by rw [ec3, up_at, if_neg (by omega)]; exact kf2
  refine lv_aload_n hx hy dX6_puts_30 rfl (lv_at hl 1 rfl) ?_
  refine gX6_all F hI L_X6_7 dX6_puts_31 ?_
  refine lv_iload hx hy dX6_puts_34 (lv_at hl 0 rfl) ?_
  refine lv_iconst (v := nI 2) hx hy dX6_puts_36 (by decide) ?_
  refine lv_iadd hx hy dX6_puts_37 ?_
  refine tI (nI_add (2 + 4 * n) (2)) ?_
  refine lv_iload_n hx hy dX6_puts_38 rfl (lv_at hl 4 rfl) ?_
  refine aIsN F hI iX6_all (i := 2 + 4 * n + 2) (by omega) (by decide) dX6_puts_39 (fun H locs hI => ?_)
  obtain ⟨c5, ec5⟩ : ∃ z9 : CF, z9 = up c3 41 (2 + 4 * n + 2) (s_) := ⟨_, rfl⟩
  have hI : Iv E s H locs (c5, u.2) := by rw [ec5]; exact hI
  have kf6 : c5 41 0 = nI n := by rw [ec5, up_at, if_neg (by omega)]; exact kf4
  refine lv_aload_n hx hy dX6_puts_40 rfl (lv_at hl 1 rfl) ?_
  refine gX6_all F hI L_X6_7 dX6_puts_41 ?_
  refine lv_iload hx hy dX6_puts_44 (lv_at hl 0 rfl) ?_
  refine lv_iconst (v := nI 3) hx hy dX6_puts_46 (by decide) ?_
  refine lv_iadd hx hy dX6_puts_47 ?_
  refine tI (nI_add (2 + 4 * n) (3)) ?_
  refine lv_iload hx hy dX6_puts_48 (lv_at hl 5 rfl) ?_
  refine aIsN F hI iX6_all (i := 2 + 4 * n + 3) (by omega) (by decide) dX6_puts_50 (fun H locs hI => ?_)
  obtain ⟨c7, ec7⟩ : ∃ z9 : CF, z9 = up c5 41 (2 + 4 * n + 3) (t) := ⟨_, rfl⟩
  have hI : Iv E s H locs (c7, u.2) := by rw [ec7]; exact hI
  have kf8 : c7 41 0 = nI n := by rw [ec7, up_at, if_neg (by omega)]; exact kf6
  refine lv_aload_n hx hy dX6_puts_51 rfl (lv_at hl 1 rfl) ?_
  refine gX6_all F hI L_X6_7 dX6_puts_52 ?_
  refine lv_iconst (v := nI 0) hx hy dX6_puts_55 (by decide) ?_
  refine lv_dup2_11 hx hy dX6_puts_56 rfl rfl ?_
  refine aIlN F hI iX6_all (i := 0) (by omega) (by decide) dX6_puts_57 ?_
  refine tI (show _ = c7 41 0 from rfl) ?_
  refine tI kf8 ?_
  refine lv_iconst (v := nI 1) hx hy dX6_puts_58 (by decide) ?_
  refine lv_iadd hx hy dX6_puts_59 ?_
  refine tI (nI_add (n) (1)) ?_
  refine aIsN F hI iX6_all (i := 0) (by omega) (by decide) dX6_puts_60 (fun H locs hI => ?_)
  obtain ⟨c9, ec9⟩ : ∃ z9 : CF, z9 = up c7 41 0 (nI (n + 1)) := ⟨_, rfl⟩
  have hI : Iv E s H locs (c9, u.2) := by rw [ec9]; exact hI
  exact rV hQ F (v := c9) hI dX6_puts_61 (by unfold putC; rw [ec9, ec7, ec5, ec3, ec1])
set_option maxHeartbeats 400000 in
set_option maxRecDepth 100000 in
theorem kX6_adds (l : Launch) (E : EV) (u : SS) {X : XS} (hC : RepM u.1 X) (hX : XOk X) (q : Ln) (s_ t : Int32) (hq1 : 1 ≤ npK q.1) (hq2 : s_ = wM q 2) (hq3 : t = wM q 3) : CT l yX6_adds cX6_adds 5 (some .int) (Rm 1 25) [.ref (eA E 48), .int (nI (q.1)), .int (nI (q.2.1)), .int (s_), .int (t)] E u (Q_i E (fun r v => r = (addL X q).1 ∧ RepM v.1 (addL X q).2 ∧ SameC u.1 v.1) (fun (v : SS) => v)) := by
  refine mstart RX6 (by decide +kernel) rfl (Nat.le_of_ble_eq_true rfl) ?_
  intro p e s m args below meth co ls Q hQ F hI hl
  have hx := F.1
  have hy := F.2.1
  have hl : lv_has ls 5 [(0, .ref (eA E 48)), (1, .int (nI (q.1))), (2, .int (nI (q.2.1))), (3, .int (s_)), (4, .int (t))] := hl
  have hC2 := hC
  obtain ⟨hA, hH, hS, hT⟩ := hC2
  have hn16 := hX.1.1
  have hl1 := hX.1.2.1
  have hl2 := hX.1.2.2.1
  have hh4 := hX.2.1.1
  have hs1 := hX.2.2.1.1
  have ht80 := hX.2.2.2.1
  refine lv_aload_n hx hy dX6_adds_0 rfl (lv_at hl 0 rfl) ?_
  refine gX6_all F hI L_X6_7 dX6_adds_1 ?_
  refine lv_iconst (v := nI 0) hx hy dX6_adds_4 (by decide) ?_
  refine aIlN F hI iX6_all (i := 0) (by omega) (by decide) dX6_adds_5 ?_
  refine tI hA.1 ?_
  refine lv_bipush (v := nI 16) hx hy dX6_adds_6 (by decide) ?_
  refine lv_icmp_ne (tgt := 14) hx hy dX6_adds_8 (by decide) (fun h1 => ?_) (fun h1 => ?_)
  · have h1 : X.1.1 ≠ 16 := fun q9 => h1 ((nI_eq (a := X.1.1) (b := 16) (by omega) (by omega)).mpr q9)
    refine lv_aload_n hx hy dX6_adds_14 rfl (lv_at hl 0 rfl) ?_
    refine zV hI (xV F hI hl (kX6_remember l E (u)) M_X6_70 (rX6 F hI) rfl ⟨Nat.le_of_ble_eq_true rfl, Nat.le_of_ble_eq_true rfl⟩ ⟨Nat.zero_le _, Nat.zero_le _⟩ rfl (Nat.le_of_ble_eq_true rfl) dX6_adds_15) (fun v4 H locs hI hp2 => ?_)
    have hK1 : RowM v4 42 0 X.1 := hp2.row hA hn16
    have hA1 : RowM v4 41 0 X.1 := hA.keep hn16 (fun i _ _ => hp2.2 _ _ (by omega))
    refine lv_aload_n hx hy dX6_adds_18 rfl (lv_at hl 0 rfl) ?_
    refine lv_iload_n hx hy dX6_adds_19 rfl (lv_at hl 1 rfl) ?_
    refine lv_iload_n hx hy dX6_adds_20 rfl (lv_at hl 2 rfl) ?_
    refine lv_iload_n hx hy dX6_adds_21 rfl (lv_at hl 3 rfl) ?_
    refine lv_iload hx hy dX6_adds_22 (lv_at hl 4 rfl) ?_
    refine zV hI (xV F hI hl (kX6_puts l E ((v4, u.2)) (n := (X.1.1)) hA1.1 (by omega) (nI (q.1)) (nI (q.2.1)) s_ t) M_X6_73 (rX6 F hI) rfl ⟨Nat.le_of_ble_eq_true rfl, Nat.le_of_ble_eq_true rfl⟩ ⟨Nat.zero_le _, Nat.zero_le _⟩ rfl (Nat.le_of_ble_eq_true rfl) dX6_adds_24) (fun v7 H locs hI hp5 => ?_)
    subst hp5
    obtain ⟨c8, ec8⟩ : ∃ z9 : CF, z9 = putC (X.1.1) (nI (q.1)) (nI (q.2.1)) s_ t v4 := ⟨_, rfl⟩
    have hI : Iv E s H locs (c8, u.2) := by rw [ec8]; exact hI
    have hoth9 : ∀ q i, q ≠ 41 → c8 q i = v4 q i := fun q9 i9 a9 => by rw [ec8]; exact putC_oth q9 i9 a9
    refine lv_aload_n hx hy dX6_adds_27 rfl (lv_at hl 0 rfl) ?_
    refine lv_aload_n hx hy dX6_adds_28 rfl (lv_at hl 0 rfl) ?_
    refine gX6_all F hI L_X6_7 dX6_adds_29 ?_
    refine lv_iconst (v := nI 0) hx hy dX6_adds_32 (by decide) ?_
    refine aIlN F hI iX6_all (i := 0) (by omega) (by decide) dX6_adds_33 ?_
    refine tI (show _ = c8 41 0 from rfl) ?_
    refine tI (show c8 41 0 = nI ((X.1.1) + 1) by rw [ec8, putC_at, if_pos rfl]) ?_
    refine lv_iconst (v := nI 1) hx hy dX6_adds_34 (by decide) ?_
    refine lv_isub hx hy dX6_adds_35 ?_
    refine tI (pk_sub (a := (X.1.1) + 1) (b := 1) (by omega)) ?_
    refine zI hI (xV F hI hl (kX6_acted l E ((c8, u.2)) (act_hh (c1 := c8) hH.1 hp2 hoth9) hh4 (nI (((X.1.1) + 1) - 1))) M_X6_77 (rX6 F hI) rfl ⟨Nat.le_of_ble_eq_true rfl, Nat.le_of_ble_eq_true rfl⟩ ⟨Nat.zero_le _, Nat.zero_le _⟩ rfl (Nat.le_of_ble_eq_true rfl) dX6_adds_36) (fun r11 v12 H locs hI hp10 => ?_)
    obtain ⟨hra, hact⟩ := hp10
    subst hra
    exact rI hQ F (v := (v12, u.2)) hI dX6_adds_39 (by unfold addL; rw [if_neg (by omega)]; exact ⟨rfl, act_end (z := (X.1.1 + 1, X.1.2.1, fun j => if j = X.1.1 then q else X.1.2.2 j)) hC hX hp2 hoth9 (by rw [ec8, hq2, hq3, ← wM_1 hq1]; exact putC_row hA1) (by show X.1.1 + 1 ≤ 16; omega) hact⟩)
  · have h1 : X.1.1 = 16 := (nI_eq (a := X.1.1) (b := 16) (by omega) (by omega)).mp h1
    refine zc F K_X6_69 dX6_adds_11 ?_
    exact rI hQ F (v := (u.1, u.2)) hI dX6_adds_13 (by unfold addL; rw [if_pos (by omega)]; exact ⟨rfl, hC, SameC.rf _⟩)
set_option maxHeartbeats 400000 in
set_option maxRecDepth 100000 in
theorem kX6_source (l : Launch) (E : EV) (u : SS) {X : XS} (hC : RepM u.1 X) (hX : XOk X) (x y : Int32) : CT l yX6_source cX6_source 3 (some .int) (Rm 2 49) [.ref (eA E 48), .int (x), .int (y)] E u (Q_i E (fun r v => r = (a_source X x y).1 ∧ RepM v.1 (a_source X x y).2 ∧ SameC u.1 v.1) (fun (v : SS) => v)) := by
  refine mstart RX6 (by decide +kernel) rfl (Nat.le_of_ble_eq_true rfl) ?_
  intro p e s m args below meth co ls Q hQ F hI hl
  have hx := F.1
  have hy := F.2.1
  have hl : lv_has ls 3 [(0, .ref (eA E 48)), (1, .int (x)), (2, .int (y))] := hl
  have hC2 := hC
  obtain ⟨hA, hH, hS, hT⟩ := hC2
  have hn16 := hX.1.1
  have hl1 := hX.1.2.1
  have hl2 := hX.1.2.2.1
  have hh4 := hX.2.1.1
  have hs1 := hX.2.2.1.1
  have ht80 := hX.2.2.2.1
  refine lv_iload_n hx hy dX6_source_0 rfl (lv_at hl 1 rfl) ?_
  refine lv_i2l (v := Int32.toInt64 x) hx hy dX6_source_1 rfl ?_
  refine lv_lconst (v := lN 0) hx hy dX6_source_2 (by decide) ?_
  refine zcl F K_X6_81 dX6_source_3 ?_
  refine tL (show _ = lN 256 from rfl) ?_
  refine zI hI (xS F hI hl (kX6_in l E (u) (Int32.toInt64 x) (lN 0) (lN 256)) M_X6_65 rfl ⟨Nat.le_of_ble_eq_true rfl, Nat.le_of_ble_eq_true rfl⟩ ⟨Nat.zero_le _, Nat.zero_le _⟩ rfl (Nat.le_of_ble_eq_true rfl) dX6_source_6) (fun r2 v3 H locs hI hp1 => ?_)
  rcases rgO_cases 0 256 x (by decide) (by decide) with hxx | ⟨jx, hmjx, hljx, rfl, hxx⟩
  · have hp1 : r2 = 0 := hp1.trans (if_neg (fun q9 => by have q8 := (in_rg (a := 0) (b := 256) (by decide) (by decide) x).mp q9; rw [hxx] at q8; cases q8))
    subst hp1
    refine lv_if_eq (tgt := 36) hx hy dX6_source_9 (by decide) (fun _ => ?_) (fun q => absurd q (by decide))
    refine zc F K_X6_90 dX6_source_36 ?_
    exact rI hQ F (v := (u.1, u.2)) hI dX6_source_38 (by rw [a_source, withR_n hxx]; exact ⟨rfl, hC, SameC.rf _⟩)
  · have hp1 : r2 = 1 := hp1.trans (if_pos ((in_rg (a := 0) (b := 256) (by decide) (by decide) (nI jx)).mpr (by rw [hxx]; rfl)))
    subst hp1
    refine lv_if_eq (tgt := 36) hx hy dX6_source_9 (by decide) (fun q => absurd q (by decide)) (fun _ => ?_)
    refine lv_iload_n hx hy dX6_source_12 rfl (lv_at hl 2 rfl) ?_
    refine lv_i2l (v := Int32.toInt64 y) hx hy dX6_source_13 rfl ?_
    refine lv_lconst (v := lN 1) hx hy dX6_source_14 (by decide) ?_
    refine zcl F K_X6_83 dX6_source_15 ?_
    refine tL (show _ = lN 255 from rfl) ?_
    refine zI hI (xS F hI hl (kX6_in l E (u) (Int32.toInt64 y) (lN 1) (lN 255)) M_X6_65 rfl ⟨Nat.le_of_ble_eq_true rfl, Nat.le_of_ble_eq_true rfl⟩ ⟨Nat.zero_le _, Nat.zero_le _⟩ rfl (Nat.le_of_ble_eq_true rfl) dX6_source_18) (fun r5 v6 H locs hI hp4 => ?_)
    rcases rgO_cases 1 255 y (by decide) (by decide) with hxy | ⟨jy, hmjy, hljy, rfl, hxy⟩
    · have hp4 : r5 = 0 := hp4.trans (if_neg (fun q9 => by have q8 := (in_rg (a := 1) (b := 255) (by decide) (by decide) y).mp q9; rw [hxy] at q8; cases q8))
      subst hp4
      refine lv_if_eq (tgt := 36) hx hy dX6_source_21 (by decide) (fun _ => ?_) (fun q => absurd q (by decide))
      refine zc F K_X6_90 dX6_source_36 ?_
      exact rI hQ F (v := (u.1, u.2)) hI dX6_source_38 (by rw [a_source, withR_s hxx, withR_n hxy]; exact ⟨rfl, hC, SameC.rf _⟩)
    · have hp4 : r5 = 1 := hp4.trans (if_pos ((in_rg (a := 1) (b := 255) (by decide) (by decide) (nI jy)).mpr (by rw [hxy]; rfl)))
      subst hp4
      refine lv_if_eq (tgt := 36) hx hy dX6_source_21 (by decide) (fun q => absurd q (by decide)) (fun _ => ?_)
      refine lv_aload_n hx hy dX6_source_24 rfl (lv_at hl 0 rfl) ?_
      refine lv_iconst (v := nI 0) hx hy dX6_source_25 (by decide) ?_
      refine lv_iload_n hx hy dX6_source_26 rfl (lv_at hl 1 rfl) ?_
      refine lv_iload_n hx hy dX6_source_27 rfl (lv_at hl 2 rfl) ?_
      refine zc F K_X6_85 dX6_source_28 ?_
      refine zI hI (xV F hI hl (kX6_adds l E (u) hC hX (0, jx, jy, 0) (nI jy) (-100000005) (by show 1 ≤ npK 0; decide) rfl rfl) M_X6_86 (rX6 F hI) rfl ⟨Nat.le_of_ble_eq_true rfl, Nat.le_of_ble_eq_true rfl⟩ ⟨Nat.zero_le _, Nat.zero_le _⟩ rfl (Nat.le_of_ble_eq_true rfl) dX6_source_30) (fun r8 v9 H locs hI hp7 => ?_)
      refine lv_goto (tgt := 38) hx hy dX6_source_33 (by decide) ?_
      exact rI hQ F (v := (v9.1, v9.2)) hI dX6_source_38 (by rw [a_source, withR_s hxx, withR_s hxy]; exact hp7)
set_option maxHeartbeats 400000 in
set_option maxRecDepth 100000 in
theorem kX6_gate (l : Launch) (E : EV) (u : SS) {X : XS} (hC : RepM u.1 X) (hX : XOk X) (k x y : Int32) : CT l yX6_gate cX6_gate 4 (some .int) (Rm 2 49) [.ref (eA E 48), .int (k), .int (x), .int (y)] E u (Q_i E (fun r v => r = (a_gate X k x y).1 ∧ RepM v.1 (a_gate X k x y).2 ∧ SameC u.1 v.1) (fun (v : SS) => v)) := by
  refine mstart RX6 (by decide +kernel) rfl (Nat.le_of_ble_eq_true rfl) ?_
  intro p e s m args below meth co ls Q hQ F hI hl
  have hx := F.1
  have hy := F.2.1
  have hl : lv_has ls 4 [(0, .ref (eA E 48)), (1, .int (k)), (2, .int (x)), (3, .int (y))] := hl
  have hC2 := hC
  obtain ⟨hA, hH, hS, hT⟩ := hC2
  have hn16 := hX.1.1
  have hl1 := hX.1.2.1
  have hl2 := hX.1.2.2.1
  have hh4 := hX.2.1.1
  have hs1 := hX.2.2.1.1
  have ht80 := hX.2.2.2.1
  refine lv_aload_n hx hy dX6_gate_0 rfl (lv_at hl 0 rfl) ?_
  refine lv_iload_n hx hy dX6_gate_1 rfl (lv_at hl 2 rfl) ?_
  refine zI hI (xV F hI hl (kX6_isLine l E (u) (n := X.1.1) hA.1 (by omega) x) M_X6_91 (rX6 F hI) rfl ⟨Nat.le_of_ble_eq_true rfl, Nat.le_of_ble_eq_true rfl⟩ ⟨Nat.zero_le _, Nat.zero_le _⟩ rfl (Nat.le_of_ble_eq_true rfl) dX6_gate_2) (fun r2 v3 H locs hI hp1 => ?_)
  rcases ixO_cases X.1.1 x (by omega) with hxx | ⟨jx, hljx, rfl, hxx⟩
  · have hp1 : r2 = 0 := hp1.trans (by rw [hxx]; rfl)
    subst hp1
    refine lv_if_eq (tgt := 16) hx hy dX6_gate_5 (by decide) (fun _ => ?_) (fun q => absurd q (by decide))
    refine zc F K_X6_95 dX6_gate_16 ?_
    exact rI hQ F (v := (u.1, u.2)) hI dX6_gate_18 (by rw [a_gate, withL_n hxx]; exact ⟨rfl, hC, SameC.rf _⟩)
  · have hp1 : r2 = 1 := hp1.trans (by rw [hxx]; rfl)
    subst hp1
    have hokjx := hX.1.2.2.2 jx hljx
    have hk6jx := hokjx.1
    have hB9jx := hokjx.2.2.2.2.2.2.1
    have hC9jx := hokjx.2.2.2.2.2.2.2
    refine lv_if_eq (tgt := 16) hx hy dX6_gate_5 (by decide) (fun q => absurd q (by decide)) (fun _ => ?_)
    refine lv_aload_n hx hy dX6_gate_8 rfl (lv_at hl 0 rfl) ?_
    refine lv_iload_n hx hy dX6_gate_9 rfl (lv_at hl 3 rfl) ?_
    refine zI hI (xV F hI hl (kX6_isLine l E (u) (n := X.1.1) hA.1 (by omega) y) M_X6_91 (rX6 F hI) rfl ⟨Nat.le_of_ble_eq_true rfl, Nat.le_of_ble_eq_true rfl⟩ ⟨Nat.zero_le _, Nat.zero_le _⟩ rfl (Nat.le_of_ble_eq_true rfl) dX6_gate_10) (fun r5 v6 H locs hI hp4 => ?_)
    rcases ixO_cases X.1.1 y (by omega) with hxy | ⟨jy, hljy, rfl, hxy⟩
    · have hp4 : r5 = 0 := hp4.trans (by rw [hxy]; rfl)
      subst hp4
      refine lv_if_ne (tgt := 19) hx hy dX6_gate_13 (by decide) (fun q => absurd q (by decide)) (fun _ => ?_)
      refine zc F K_X6_95 dX6_gate_16 ?_
      exact rI hQ F (v := (u.1, u.2)) hI dX6_gate_18 (by rw [a_gate, withL_s hxx, withL_n hxy]; exact ⟨rfl, hC, SameC.rf _⟩)
    · have hp4 : r5 = 1 := hp4.trans (by rw [hxy]; rfl)
      subst hp4
      have hokjy := hX.1.2.2.2 jy hljy
      have hk6jy := hokjy.1
      have hB9jy := hokjy.2.2.2.2.2.2.1
      have hC9jy := hokjy.2.2.2.2.2.2.2
      refine lv_if_ne (tgt := 19) hx hy dX6_gate_13 (by decide) (fun _ => ?_) (fun q => absurd q (by decide))
      refine lv_iload_n hx hy dX6_gate_19 rfl (lv_at hl 1 rfl) ?_
      refine lv_i2l (v := Int32.toInt64 k) hx hy dX6_gate_20 rfl ?_
      refine lv_lconst (v := lN 1) hx hy dX6_gate_21 (by decide) ?_
      refine zcl F K_X6_96 dX6_gate_22 ?_
      refine tL (show _ = lN 3 from rfl) ?_
      refine zI hI (xS F hI hl (kX6_in l E (u) (Int32.toInt64 k) (lN 1) (lN 3)) M_X6_65 rfl ⟨Nat.le_of_ble_eq_true rfl, Nat.le_of_ble_eq_true rfl⟩ ⟨Nat.zero_le _, Nat.zero_le _⟩ rfl (Nat.le_of_ble_eq_true rfl) dX6_gate_25) (fun r8 v9 H locs hI hp7 => ?_)
      rcases rgO_cases 1 3 k (by decide) (by decide) with hxk | ⟨jk, hmjk, hljk, rfl, hxk⟩
      · have hp7 : r8 = 0 := hp7.trans (if_neg (fun q9 => by have q8 := (in_rg (a := 1) (b := 3) (by decide) (by decide) k).mp q9; rw [hxk] at q8; cases q8))
        subst hp7
        refine lv_if_eq (tgt := 43) hx hy dX6_gate_28 (by decide) (fun _ => ?_) (fun q => absurd q (by decide))
        refine zc F K_X6_90 dX6_gate_43 ?_
        exact rI hQ F (v := (u.1, u.2)) hI dX6_gate_45 (by rw [a_gate, withL_s hxx, withL_s hxy, withR_n hxk]; exact ⟨rfl, hC, SameC.rf _⟩)
      · have hp7 : r8 = 1 := hp7.trans (if_pos ((in_rg (a := 1) (b := 3) (by decide) (by decide) (nI jk)).mpr (by rw [hxk]; rfl)))
        subst hp7
        refine lv_if_eq (tgt := 43) hx hy dX6_gate_28 (by decide) (fun q => absurd q (by decide)) (fun _ => ?_)
        refine lv_aload_n hx hy dX6_gate_31 rfl (lv_at hl 0 rfl) ?_
        refine lv_iload_n hx hy dX6_gate_32 rfl (lv_at hl 1 rfl) ?_
        refine lv_iload_n hx hy dX6_gate_33 rfl (lv_at hl 2 rfl) ?_
        refine lv_iload_n hx hy dX6_gate_34 rfl (lv_at hl 3 rfl) ?_
        refine zc F K_X6_85 dX6_gate_35 ?_
        refine zI hI (xV F hI hl (kX6_adds l E (u) hC hX (jk, jx, jy, 0) (nI jy) (-100000005) (np1 jk (by omega)) (by rcases (show jk = 1 ∨ jk = 2 ∨ jk = 3 by omega) with rfl | rfl | rfl <;> rfl) (by rcases (show jk = 1 ∨ jk = 2 ∨ jk = 3 by omega) with rfl | rfl | rfl <;> rfl)) M_X6_86 (rX6 F hI) rfl ⟨Nat.le_of_ble_eq_true rfl, Nat.le_of_ble_eq_true rfl⟩ ⟨Nat.zero_le _, Nat.zero_le _⟩ rfl (Nat.le_of_ble_eq_true rfl) dX6_gate_37) (fun r11 v12 H locs hI hp10 => ?_)
        refine lv_goto (tgt := 45) hx hy dX6_gate_40 (by decide) ?_
        exact rI hQ F (v := (v12.1, v12.2)) hI dX6_gate_45 (by rw [a_gate, withL_s hxx, withL_s hxy, withR_s hxk]; exact hp10)
set_option maxHeartbeats 400000 in
set_option maxRecDepth 100000 in
theorem kX6_choose (l : Launch) (E : EV) (u : SS) {X : XS} (hC : RepM u.1 X) (hX : XOk X) (x y w : Int32) : CT l yX6_choose cX6_choose 4 (some .int) (Rm 2 49) [.ref (eA E 48), .int (x), .int (y), .int (w)] E u (Q_i E (fun r v => r = (a_choose X x y w).1 ∧ RepM v.1 (a_choose X x y w).2 ∧ SameC u.1 v.1) (fun (v : SS) => v)) := by
  refine mstart RX6 (by decide +kernel) rfl (Nat.le_of_ble_eq_true rfl) ?_
  intro p e s m args below meth co ls Q hQ F hI hl
  have hx := F.1
  have hy := F.2.1
  have hl : lv_has ls 4 [(0, .ref (eA E 48)), (1, .int (x)), (2, .int (y)), (3, .int (w))] := hl
  have hC2 := hC
  obtain ⟨hA, hH, hS, hT⟩ := hC2
  have hn16 := hX.1.1
  have hl1 := hX.1.2.1
  have hl2 := hX.1.2.2.1
  have hh4 := hX.2.1.1
  have hs1 := hX.2.2.1.1
  have ht80 := hX.2.2.2.1
  refine lv_aload_n hx hy dX6_choose_0 rfl (lv_at hl 0 rfl) ?_
  refine lv_iload_n hx hy dX6_choose_1 rfl (lv_at hl 1 rfl) ?_
  refine zI hI (xV F hI hl (kX6_isLine l E (u) (n := X.1.1) hA.1 (by omega) x) M_X6_91 (rX6 F hI) rfl ⟨Nat.le_of_ble_eq_true rfl, Nat.le_of_ble_eq_true rfl⟩ ⟨Nat.zero_le _, Nat.zero_le _⟩ rfl (Nat.le_of_ble_eq_true rfl) dX6_choose_2) (fun r2 v3 H locs hI hp1 => ?_)
  rcases ixO_cases X.1.1 x (by omega) with hxx | ⟨jx, hljx, rfl, hxx⟩
  · have hp1 : r2 = 0 := hp1.trans (by rw [hxx]; rfl)
    subst hp1
    refine lv_if_eq (tgt := 35) hx hy dX6_choose_5 (by decide) (fun _ => ?_) (fun q => absurd q (by decide))
    refine zc F K_X6_95 dX6_choose_35 ?_
    exact rI hQ F (v := (u.1, u.2)) hI dX6_choose_37 (by rw [a_choose, withL_n hxx]; exact ⟨rfl, hC, SameC.rf _⟩)
  · have hp1 : r2 = 1 := hp1.trans (by rw [hxx]; rfl)
    subst hp1
    have hokjx := hX.1.2.2.2 jx hljx
    have hk6jx := hokjx.1
    have hB9jx := hokjx.2.2.2.2.2.2.1
    have hC9jx := hokjx.2.2.2.2.2.2.2
    refine lv_if_eq (tgt := 35) hx hy dX6_choose_5 (by decide) (fun q => absurd q (by decide)) (fun _ => ?_)
    refine lv_aload_n hx hy dX6_choose_8 rfl (lv_at hl 0 rfl) ?_
    refine lv_iload_n hx hy dX6_choose_9 rfl (lv_at hl 2 rfl) ?_
    refine zI hI (xV F hI hl (kX6_isLine l E (u) (n := X.1.1) hA.1 (by omega) y) M_X6_91 (rX6 F hI) rfl ⟨Nat.le_of_ble_eq_true rfl, Nat.le_of_ble_eq_true rfl⟩ ⟨Nat.zero_le _, Nat.zero_le _⟩ rfl (Nat.le_of_ble_eq_true rfl) dX6_choose_10) (fun r5 v6 H locs hI hp4 => ?_)
    rcases ixO_cases X.1.1 y (by omega) with hxy | ⟨jy, hljy, rfl, hxy⟩
    · have hp4 : r5 = 0 := hp4.trans (by rw [hxy]; rfl)
      subst hp4
      refine lv_if_eq (tgt := 35) hx hy dX6_choose_13 (by decide) (fun _ => ?_) (fun q => absurd q (by decide))
      refine zc F K_X6_95 dX6_choose_35 ?_
      exact rI hQ F (v := (u.1, u.2)) hI dX6_choose_37 (by rw [a_choose, withL_s hxx, withL_n hxy]; exact ⟨rfl, hC, SameC.rf _⟩)
    · have hp4 : r5 = 1 := hp4.trans (by rw [hxy]; rfl)
      subst hp4
      have hokjy := hX.1.2.2.2 jy hljy
      have hk6jy := hokjy.1
      have hB9jy := hokjy.2.2.2.2.2.2.1
      have hC9jy := hokjy.2.2.2.2.2.2.2
      refine lv_if_eq (tgt := 35) hx hy dX6_choose_13 (by decide) (fun q => absurd q (by decide)) (fun _ => ?_)
      refine lv_aload_n hx hy dX6_choose_16 rfl (lv_at hl 0 rfl) ?_
      refine lv_iload_n hx hy dX6_choose_17 rfl (lv_at hl 3 rfl) ?_
      refine zI hI (xV F hI hl (kX6_isLine l E (u) (n := X.1.1) hA.1 (by omega) w) M_X6_91 (rX6 F hI) rfl ⟨Nat.le_of_ble_eq_true rfl, Nat.le_of_ble_eq_true rfl⟩ ⟨Nat.zero_le _, Nat.zero_le _⟩ rfl (Nat.le_of_ble_eq_true rfl) dX6_choose_18) (fun r8 v9 H locs hI hp7 => ?_)
      rcases ixO_cases X.1.1 w (by omega) with hxw | ⟨jw, hljw, rfl, hxw⟩
      · have hp7 : r8 = 0 := hp7.trans (by rw [hxw]; rfl)
        subst hp7
        refine lv_if_eq (tgt := 35) hx hy dX6_choose_21 (by decide) (fun _ => ?_) (fun q => absurd q (by decide))
        refine zc F K_X6_95 dX6_choose_35 ?_
        exact rI hQ F (v := (u.1, u.2)) hI dX6_choose_37 (by rw [a_choose, withL_s hxx, withL_s hxy, withL_n hxw]; exact ⟨rfl, hC, SameC.rf _⟩)
      · have hp7 : r8 = 1 := hp7.trans (by rw [hxw]; rfl)
        subst hp7
        have hokjw := hX.1.2.2.2 jw hljw
        have hk6jw := hokjw.1
        have hB9jw := hokjw.2.2.2.2.2.2.1
        have hC9jw := hokjw.2.2.2.2.2.2.2
        refine lv_if_eq (tgt := 35) hx hy dX6_choose_21 (by decide) (fun q => absurd q (by decide)) (fun _ => ?_)
        refine lv_aload_n hx hy dX6_choose_24 rfl (lv_at hl 0 rfl) ?_
        refine lv_iconst (v := nI 4) hx hy dX6_choose_25 (by decide) ?_
        refine lv_iload_n hx hy dX6_choose_26 rfl (lv_at hl 1 rfl) ?_
        refine lv_iload_n hx hy dX6_choose_27 rfl (lv_at hl 2 rfl) ?_
        refine lv_iload_n hx hy dX6_choose_28 rfl (lv_at hl 3 rfl) ?_
        refine zI hI (xV F hI hl (kX6_adds l E (u) hC hX (4, jx, jy, jw) (nI jy) (nI jw) (by show 1 ≤ npK 4; decide) rfl rfl) M_X6_86 (rX6 F hI) rfl ⟨Nat.le_of_ble_eq_true rfl, Nat.le_of_ble_eq_true rfl⟩ ⟨Nat.zero_le _, Nat.zero_le _⟩ rfl (Nat.le_of_ble_eq_true rfl) dX6_choose_29) (fun r11 v12 H locs hI hp10 => ?_)
        refine lv_goto (tgt := 37) hx hy dX6_choose_32 (by decide) ?_
        exact rI hQ F (v := (v12.1, v12.2)) hI dX6_choose_37 (by rw [a_choose, withL_s hxx, withL_s hxy, withL_s hxw]; exact hp10)
set_option maxHeartbeats 400000 in
set_option maxRecDepth 100000 in
theorem kX6_turn (l : Launch) (E : EV) (u : SS) {X : XS} (hC : RepM u.1 X) (hX : XOk X) (x : Int32) : CT l yX6_turn cX6_turn 2 (some .int) (Rm 2 49) [.ref (eA E 48), .int (x)] E u (Q_i E (fun r v => r = (a_turn X x).1 ∧ RepM v.1 (a_turn X x).2 ∧ SameC u.1 v.1) (fun (v : SS) => v)) := by
  refine mstart RX6 (by decide +kernel) rfl (Nat.le_of_ble_eq_true rfl) ?_
  intro p e s m args below meth co ls Q hQ F hI hl
  have hx := F.1
  have hy := F.2.1
  have hl : lv_has ls 2 [(0, .ref (eA E 48)), (1, .int (x))] := hl
  have hC2 := hC
  obtain ⟨hA, hH, hS, hT⟩ := hC2
  have hn16 := hX.1.1
  have hl1 := hX.1.2.1
  have hl2 := hX.1.2.2.1
  have hh4 := hX.2.1.1
  have hs1 := hX.2.2.1.1
  have ht80 := hX.2.2.2.1
  refine lv_aload_n hx hy dX6_turn_0 rfl (lv_at hl 0 rfl) ?_
  refine lv_iload_n hx hy dX6_turn_1 rfl (lv_at hl 1 rfl) ?_
  refine zI hI (xV F hI hl (kX6_isLine l E (u) (n := X.1.1) hA.1 (by omega) x) M_X6_91 (rX6 F hI) rfl ⟨Nat.le_of_ble_eq_true rfl, Nat.le_of_ble_eq_true rfl⟩ ⟨Nat.zero_le _, Nat.zero_le _⟩ rfl (Nat.le_of_ble_eq_true rfl) dX6_turn_2) (fun r2 v3 H locs hI hp1 => ?_)
  rcases ixO_cases X.1.1 x (by omega) with hxx | ⟨jx, hljx, rfl, hxx⟩
  · have hp1 : r2 = 0 := hp1.trans (by rw [hxx]; rfl)
    subst hp1
    refine lv_if_eq (tgt := 21) hx hy dX6_turn_5 (by decide) (fun _ => ?_) (fun q => absurd q (by decide))
    refine zc F K_X6_95 dX6_turn_21 ?_
    exact rI hQ F (v := (u.1, u.2)) hI dX6_turn_23 (by rw [a_turn, withL_n hxx]; exact ⟨rfl, hC, SameC.rf _⟩)
  · have hp1 : r2 = 1 := hp1.trans (by rw [hxx]; rfl)
    subst hp1
    have hokjx := hX.1.2.2.2 jx hljx
    have hk6jx := hokjx.1
    have hB9jx := hokjx.2.2.2.2.2.2.1
    have hC9jx := hokjx.2.2.2.2.2.2.2
    refine lv_if_eq (tgt := 21) hx hy dX6_turn_5 (by decide) (fun q => absurd q (by decide)) (fun _ => ?_)
    refine lv_aload_n hx hy dX6_turn_8 rfl (lv_at hl 0 rfl) ?_
    refine lv_iconst (v := nI 5) hx hy dX6_turn_9 (by decide) ?_
    refine lv_iload_n hx hy dX6_turn_10 rfl (lv_at hl 1 rfl) ?_
    refine zc F K_X6_85 dX6_turn_11 ?_
    refine zc F K_X6_85 dX6_turn_13 ?_
    refine zI hI (xV F hI hl (kX6_adds l E (u) hC hX (5, jx, 0, 0) (-100000005) (-100000005) (by show 1 ≤ npK 5; decide) rfl rfl) M_X6_86 (rX6 F hI) rfl ⟨Nat.le_of_ble_eq_true rfl, Nat.le_of_ble_eq_true rfl⟩ ⟨Nat.zero_le _, Nat.zero_le _⟩ rfl (Nat.le_of_ble_eq_true rfl) dX6_turn_15) (fun r5 v6 H locs hI hp4 => ?_)
    refine lv_goto (tgt := 23) hx hy dX6_turn_18 (by decide) ?_
    exact rI hQ F (v := (v6.1, v6.2)) hI dX6_turn_23 (by rw [a_turn, withL_s hxx]; exact hp4)
set_option maxHeartbeats 400000 in
set_option maxRecDepth 100000 in
theorem kX6_delay (l : Launch) (E : EV) (u : SS) {X : XS} (hC : RepM u.1 X) (hX : XOk X) (x y : Int32) : CT l yX6_delay cX6_delay 3 (some .int) (Rm 2 49) [.ref (eA E 48), .int (x), .int (y)] E u (Q_i E (fun r v => r = (a_delay X x y).1 ∧ RepM v.1 (a_delay X x y).2 ∧ SameC u.1 v.1) (fun (v : SS) => v)) := by
  refine mstart RX6 (by decide +kernel) rfl (Nat.le_of_ble_eq_true rfl) ?_
  intro p e s m args below meth co ls Q hQ F hI hl
  have hx := F.1
  have hy := F.2.1
  have hl : lv_has ls 3 [(0, .ref (eA E 48)), (1, .int (x)), (2, .int (y))] := hl
  have hC2 := hC
  obtain ⟨hA, hH, hS, hT⟩ := hC2
  have hn16 := hX.1.1
  have hl1 := hX.1.2.1
  have hl2 := hX.1.2.2.1
  have hh4 := hX.2.1.1
  have hs1 := hX.2.2.1.1
  have ht80 := hX.2.2.2.1
  refine lv_aload_n hx hy dX6_delay_0 rfl (lv_at hl 0 rfl) ?_
  refine lv_iload_n hx hy dX6_delay_1 rfl (lv_at hl 1 rfl) ?_
  refine zI hI (xV F hI hl (kX6_isLine l E (u) (n := X.1.1) hA.1 (by omega) x) M_X6_91 (rX6 F hI) rfl ⟨Nat.le_of_ble_eq_true rfl, Nat.le_of_ble_eq_true rfl⟩ ⟨Nat.zero_le _, Nat.zero_le _⟩ rfl (Nat.le_of_ble_eq_true rfl) dX6_delay_2) (fun r2 v3 H locs hI hp1 => ?_)
  rcases ixO_cases X.1.1 x (by omega) with hxx | ⟨jx, hljx, rfl, hxx⟩
  · have hp1 : r2 = 0 := hp1.trans (by rw [hxx]; rfl)
    subst hp1
    refine lv_if_ne (tgt := 11) hx hy dX6_delay_5 (by decide) (fun q => absurd q (by decide)) (fun _ => ?_)
    refine zc F K_X6_95 dX6_delay_8 ?_
    exact rI hQ F (v := (u.1, u.2)) hI dX6_delay_10 (by rw [a_delay, withL_n hxx]; exact ⟨rfl, hC, SameC.rf _⟩)
  · have hp1 : r2 = 1 := hp1.trans (by rw [hxx]; rfl)
    subst hp1
    have hokjx := hX.1.2.2.2 jx hljx
    have hk6jx := hokjx.1
    have hB9jx := hokjx.2.2.2.2.2.2.1
    have hC9jx := hokjx.2.2.2.2.2.2.2
    refine lv_if_ne (tgt := 11) hx hy dX6_delay_5 (by decide) (fun _ => ?_) (fun q => absurd q (by decide))
    refine lv_iload_n hx hy dX6_delay_11 rfl (lv_at hl 2 rfl) ?_
    refine lv_i2l (v := Int32.toInt64 y) hx hy dX6_delay_12 rfl ?_
    refine lv_lconst (v := lN 1) hx hy dX6_delay_13 (by decide) ?_
    refine zcl F K_X6_98 dX6_delay_14 ?_
    refine tL (show _ = lN 60 from rfl) ?_
    refine zI hI (xS F hI hl (kX6_in l E (u) (Int32.toInt64 y) (lN 1) (lN 60)) M_X6_65 rfl ⟨Nat.le_of_ble_eq_true rfl, Nat.le_of_ble_eq_true rfl⟩ ⟨Nat.zero_le _, Nat.zero_le _⟩ rfl (Nat.le_of_ble_eq_true rfl) dX6_delay_17) (fun r5 v6 H locs hI hp4 => ?_)
    rcases rgO_cases 1 60 y (by decide) (by decide) with hxy | ⟨jy, hmjy, hljy, rfl, hxy⟩
    · have hp4 : r5 = 0 := hp4.trans (if_neg (fun q9 => by have q8 := (in_rg (a := 1) (b := 60) (by decide) (by decide) y).mp q9; rw [hxy] at q8; cases q8))
      subst hp4
      refine lv_if_eq (tgt := 36) hx hy dX6_delay_20 (by decide) (fun _ => ?_) (fun q => absurd q (by decide))
      refine zc F K_X6_90 dX6_delay_36 ?_
      exact rI hQ F (v := (u.1, u.2)) hI dX6_delay_38 (by rw [a_delay, withL_s hxx, withR_n hxy]; exact ⟨rfl, hC, SameC.rf _⟩)
    · have hp4 : r5 = 1 := hp4.trans (if_pos ((in_rg (a := 1) (b := 60) (by decide) (by decide) (nI jy)).mpr (by rw [hxy]; rfl)))
      subst hp4
      refine lv_if_eq (tgt := 36) hx hy dX6_delay_20 (by decide) (fun q => absurd q (by decide)) (fun _ => ?_)
      refine lv_aload_n hx hy dX6_delay_23 rfl (lv_at hl 0 rfl) ?_
      refine lv_bipush (v := nI 6) hx hy dX6_delay_24 (by decide) ?_
      refine lv_iload_n hx hy dX6_delay_26 rfl (lv_at hl 1 rfl) ?_
      refine lv_iload_n hx hy dX6_delay_27 rfl (lv_at hl 2 rfl) ?_
      refine zc F K_X6_85 dX6_delay_28 ?_
      refine zI hI (xV F hI hl (kX6_adds l E (u) hC hX (6, jx, jy, 0) (nI jy) (-100000005) (by show 1 ≤ npK 6; decide) rfl rfl) M_X6_86 (rX6 F hI) rfl ⟨Nat.le_of_ble_eq_true rfl, Nat.le_of_ble_eq_true rfl⟩ ⟨Nat.zero_le _, Nat.zero_le _⟩ rfl (Nat.le_of_ble_eq_true rfl) dX6_delay_30) (fun r8 v9 H locs hI hp7 => ?_)
      refine lv_goto (tgt := 38) hx hy dX6_delay_33 (by decide) ?_
      exact rI hQ F (v := (v9.1, v9.2)) hI dX6_delay_38 (by rw [a_delay, withL_s hxx, withR_s hxy]; exact hp7)
set_option maxHeartbeats 400000 in
set_option maxRecDepth 100000 in
theorem kX6_reseed (l : Launch) (E : EV) (u : SS) {X : XS} (hC : RepM u.1 X) (hX : XOk X) (x y w : Int32) : CT l yX6_reseed cX6_reseed 5 (some .int) (Rm 2 46) [.ref (eA E 48), .int (x), .int (y), .int (w)] E u (Q_i E (fun r v => r = (a_reseed X x y w).1 ∧ RepM v.1 (a_reseed X x y w).2 ∧ SameC u.1 v.1) (fun (v : SS) => v)) := by
  refine mstart RX6 (by decide +kernel) rfl (Nat.le_of_ble_eq_true rfl) ?_
  intro p e s m args below meth co ls Q hQ F hI hl
  have hx := F.1
  have hy := F.2.1
  have hl : lv_has ls 5 [(0, .ref (eA E 48)), (1, .int (x)), (2, .int (y)), (3, .int (w))] := hl
  have hC2 := hC
  obtain ⟨hA, hH, hS, hT⟩ := hC2
  have hn16 := hX.1.1
  have hl1 := hX.1.2.1
  have hl2 := hX.1.2.2.1
  have hh4 := hX.2.1.1
  have hs1 := hX.2.2.1.1
  have ht80 := hX.2.2.2.1
  refine lv_aload_n hx hy dX6_reseed_0 rfl (lv_at hl 0 rfl) ?_
  refine lv_iload_n hx hy dX6_reseed_1 rfl (lv_at hl 1 rfl) ?_
  refine zI hI (xV F hI hl (kX6_isLine l E (u) (n := X.1.1) hA.1 (by omega) x) M_X6_91 (rX6 F hI) rfl ⟨Nat.le_of_ble_eq_true rfl, Nat.le_of_ble_eq_true rfl⟩ ⟨Nat.zero_le _, Nat.zero_le _⟩ rfl (Nat.le_of_ble_eq_true rfl) dX6_reseed_2) (fun r2 v3 H locs hI hp1 => ?_)
  rcases ixO_cases X.1.1 x (by omega) with hxx | ⟨jx, hljx, rfl, hxx⟩
  · have hp1 : r2 = 0 := hp1.trans (by rw [hxx]; rfl)
    subst hp1
    refine lv_if_ne (tgt := 11) hx hy dX6_reseed_5 (by decide) (fun q => absurd q (by decide)) (fun _ => ?_)
    refine zc F K_X6_95 dX6_reseed_8 ?_
    exact rI hQ F (v := (u.1, u.2)) hI dX6_reseed_10 (by rw [a_reseed, withL_n hxx]; exact ⟨rfl, hC, SameC.rf _⟩)
  · have hp1 : r2 = 1 := hp1.trans (by rw [hxx]; rfl)
    subst hp1
    have hokjx := hX.1.2.2.2 jx hljx
    have hk6jx := hokjx.1
    have hB9jx := hokjx.2.2.2.2.2.2.1
    have hC9jx := hokjx.2.2.2.2.2.2.2
    refine lv_if_ne (tgt := 11) hx hy dX6_reseed_5 (by decide) (fun _ => ?_) (fun q => absurd q (by decide))
    refine lv_iload_n hx hy dX6_reseed_11 rfl (lv_at hl 2 rfl) ?_
    refine lv_i2l (v := Int32.toInt64 y) hx hy dX6_reseed_12 rfl ?_
    refine lv_lconst (v := lN 0) hx hy dX6_reseed_13 (by decide) ?_
    refine zcl F K_X6_81 dX6_reseed_14 ?_
    refine tL (show _ = lN 256 from rfl) ?_
    refine zI hI (xS F hI hl (kX6_in l E (u) (Int32.toInt64 y) (lN 0) (lN 256)) M_X6_65 rfl ⟨Nat.le_of_ble_eq_true rfl, Nat.le_of_ble_eq_true rfl⟩ ⟨Nat.zero_le _, Nat.zero_le _⟩ rfl (Nat.le_of_ble_eq_true rfl) dX6_reseed_17) (fun r5 v6 H locs hI hp4 => ?_)
    rcases rgO_cases 0 256 y (by decide) (by decide) with hxy | ⟨jy, hmjy, hljy, rfl, hxy⟩
    · have hp4 : r5 = 0 := hp4.trans (if_neg (fun q9 => by have q8 := (in_rg (a := 0) (b := 256) (by decide) (by decide) y).mp q9; rw [hxy] at q8; cases q8))
      subst hp4
      refine lv_if_eq (tgt := 35) hx hy dX6_reseed_20 (by decide) (fun _ => ?_) (fun q => absurd q (by decide))
      refine zc F K_X6_90 dX6_reseed_35 ?_
      exact rI hQ F (v := (u.1, u.2)) hI dX6_reseed_37 (by rw [a_reseed, withL_s hxx, withR_n hxy]; exact ⟨rfl, hC, SameC.rf _⟩)
    · have hp4 : r5 = 1 := hp4.trans (if_pos ((in_rg (a := 0) (b := 256) (by decide) (by decide) (nI jy)).mpr (by rw [hxy]; rfl)))
      subst hp4
      refine lv_if_eq (tgt := 35) hx hy dX6_reseed_20 (by decide) (fun q => absurd q (by decide)) (fun _ => ?_)
      refine lv_iload_n hx hy dX6_reseed_23 rfl (lv_at hl 3 rfl) ?_
      refine lv_i2l (v := Int32.toInt64 w) hx hy dX6_reseed_24 rfl ?_
      refine lv_lconst (v := lN 1) hx hy dX6_reseed_25 (by decide) ?_
      refine zcl F K_X6_83 dX6_reseed_26 ?_
      refine tL (show _ = lN 255 from rfl) ?_
      refine zI hI (xS F hI hl (kX6_in l E (u) (Int32.toInt64 w) (lN 1) (lN 255)) M_X6_65 rfl ⟨Nat.le_of_ble_eq_true rfl, Nat.le_of_ble_eq_true rfl⟩ ⟨Nat.zero_le _, Nat.zero_le _⟩ rfl (Nat.le_of_ble_eq_true rfl) dX6_reseed_29) (fun r8 v9 H locs hI hp7 => ?_)
      rcases rgO_cases 1 255 w (by decide) (by decide) with hxw | ⟨jw, hmjw, hljw, rfl, hxw⟩
      · have hp7 : r8 = 0 := hp7.trans (if_neg (fun q9 => by have q8 := (in_rg (a := 1) (b := 255) (by decide) (by decide) w).mp q9; rw [hxw] at q8; cases q8))
        subst hp7
        refine lv_if_ne (tgt := 38) hx hy dX6_reseed_32 (by decide) (fun q => absurd q (by decide)) (fun _ => ?_)
        refine zc F K_X6_90 dX6_reseed_35 ?_
        exact rI hQ F (v := (u.1, u.2)) hI dX6_reseed_37 (by rw [a_reseed, withL_s hxx, withR_s hxy, withR_n hxw]; exact ⟨rfl, hC, SameC.rf _⟩)
      · have hp7 : r8 = 1 := hp7.trans (if_pos ((in_rg (a := 1) (b := 255) (by decide) (by decide) (nI jw)).mpr (by rw [hxw]; rfl)))
        subst hp7
        refine lv_if_ne (tgt := 38) hx hy dX6_reseed_32 (by decide) (fun _ => ?_) (fun q => absurd q (by decide))
        refine lv_aload_n hx hy dX6_reseed_38 rfl (lv_at hl 0 rfl) ?_
        refine lv_iload_n hx hy dX6_reseed_39 rfl (lv_at hl 1 rfl) ?_
        refine lv_iconst (v := nI 0) hx hy dX6_reseed_40 (by decide) ?_
        refine zI hI (xV F hI hl (kX6_of l E (u) jx 0 (by omega) (by omega)) M_X6_100 (rX6 F hI) rfl ⟨Nat.le_of_ble_eq_true rfl, Nat.le_of_ble_eq_true rfl⟩ ⟨Nat.zero_le _, Nat.zero_le _⟩ rfl (Nat.le_of_ble_eq_true rfl) dX6_reseed_41) (fun r11 v12 H locs hI hp10 => ?_)
        subst hp10
        refine tI (show u.1 41 (2 + 4 * jx + 0) = nI (X.1.2.2 jx).1 by have h9 := (hA.2.2 jx hljx).1; rw [Nat.zero_add] at h9; exact h9) ?_
        refine lv_if_eq (tgt := 50) hx hy dX6_reseed_44 (by decide) (fun h13 => ?_) (fun h13 => ?_)
        · have h13 : (X.1.2.2 jx).1 = 0 := (nI_eq (a := (X.1.2.2 jx).1) (b := 0) (by omega) (by omega)).mp h13
          have h256 := (hokjx.2.1 h13).1
          have hnp2 : npK (X.1.2.2 jx).1 = 2 := by rw [h13]; rfl
          refine lv_aload_n hx hy dX6_reseed_50 rfl (lv_at hl 0 rfl) ?_
          refine lv_iload_n hx hy dX6_reseed_51 rfl (lv_at hl 1 rfl) ?_
          refine lv_iconst (v := nI 1) hx hy dX6_reseed_52 (by decide) ?_
          refine zI hI (xV F hI hl (kX6_of l E (u) jx 1 (by omega) (by omega)) M_X6_100 (rX6 F hI) rfl ⟨Nat.le_of_ble_eq_true rfl, Nat.le_of_ble_eq_true rfl⟩ ⟨Nat.zero_le _, Nat.zero_le _⟩ rfl (Nat.le_of_ble_eq_true rfl) dX6_reseed_53) (fun r15 v16 H locs hI hp14 => ?_)
          subst hp14
          refine tI (show u.1 41 (2 + 4 * jx + 1) = nI (X.1.2.2 jx).2.1 by rw [← wM_1 (by omega)]; have h9 := (hA.2.2 jx hljx).2.1; rw [Nat.zero_add] at h9; exact h9) ?_
          refine lv_istore (lv' := [(4, .int (nI ((X.1.2.2 jx).2.1))), (0, .ref (eA E 48)), (1, .int (nI jx)), (2, .int (nI jy)), (3, .int (nI jw))]) hx hy dX6_reseed_56 hl (by decide) rfl (fun ls hl => ?_)
          refine lv_iload hx hy dX6_reseed_58 (lv_at hl 0 rfl) ?_
          refine lv_iload_n hx hy dX6_reseed_60 rfl (lv_at hl 3 rfl) ?_
          refine lv_icmp_ne (tgt := 77) hx hy dX6_reseed_61 (by decide) (fun h17 => ?_) (fun h17 => ?_)
          · have h17 : (X.1.2.2 jx).2.1 ≠ jy := fun q9 => h17 ((nI_eq (a := (X.1.2.2 jx).2.1) (b := jy) (by omega) (by omega)).mpr q9)
            refine lv_aload_n hx hy dX6_reseed_77 rfl (lv_at hl 1 rfl) ?_
            refine zV hI (xV F hI hl (kX6_remember l E (u)) M_X6_70 (rX6 F hI) rfl ⟨Nat.le_of_ble_eq_true rfl, Nat.le_of_ble_eq_true rfl⟩ ⟨Nat.zero_le _, Nat.zero_le _⟩ rfl (Nat.le_of_ble_eq_true rfl) dX6_reseed_78) (fun v20 H locs hI hp18 => ?_)
            have hK1 : RowM v20 42 0 X.1 := hp18.row hA hn16
            have hA1 : RowM v20 41 0 X.1 := hA.keep hn16 (fun i _ _ => hp18.2 _ _ (by omega))
            refine lv_aload_n hx hy dX6_reseed_81 rfl (lv_at hl 1 rfl) ?_
            refine gX6_all F hI L_X6_7 dX6_reseed_82 ?_
            refine lv_iconst (v := nI 2) hx hy dX6_reseed_85 (by decide) ?_
            refine lv_iconst (v := nI 4) hx hy dX6_reseed_86 (by decide) ?_
            refine lv_iload_n hx hy dX6_reseed_87 rfl (lv_at hl 2 rfl) ?_
            refine lv_imul hx hy dX6_reseed_88 ?_
            refine tI (pk_mul (4) (jx)) ?_
            refine lv_iadd hx hy dX6_reseed_89 ?_
            refine tI (nI_add (2) (4 * jx)) ?_
            refine lv_iconst (v := nI 1) hx hy dX6_reseed_90 (by decide) ?_
            refine lv_iadd hx hy dX6_reseed_91 ?_
            refine tI (nI_add (2 + 4 * jx) (1)) ?_
            refine lv_iload_n hx hy dX6_reseed_92 rfl (lv_at hl 3 rfl) ?_
            refine aIsN F hI iX6_all (i := 2 + 4 * jx + 1) (by omega) (by decide) dX6_reseed_93 (fun H locs hI => ?_)
            obtain ⟨c21, ec21⟩ : ∃ z9 : CF, z9 = up v20 41 (2 + 4 * jx + 1) (nI jy) := ⟨_, rfl⟩
            have hI : Iv E s H locs (c21, u.2) := by rw [ec21]; exact hI
            refine lv_aload_n hx hy dX6_reseed_94 rfl (lv_at hl 1 rfl) ?_
            refine gX6_all F hI L_X6_7 dX6_reseed_95 ?_
            refine lv_iconst (v := nI 2) hx hy dX6_reseed_98 (by decide) ?_
            refine lv_iconst (v := nI 4) hx hy dX6_reseed_99 (by decide) ?_
            refine lv_iload_n hx hy dX6_reseed_100 rfl (lv_at hl 2 rfl) ?_
            refine lv_imul hx hy dX6_reseed_101 ?_
            refine tI (pk_mul (4) (jx)) ?_
            refine lv_iadd hx hy dX6_reseed_102 ?_
            refine tI (nI_add (2) (4 * jx)) ?_
            refine lv_iconst (v := nI 2) hx hy dX6_reseed_103 (by decide) ?_
            refine lv_iadd hx hy dX6_reseed_104 ?_
            refine tI (nI_add (2 + 4 * jx) (2)) ?_
            refine lv_iload_n hx hy dX6_reseed_105 rfl (lv_at hl 4 rfl) ?_
            refine aIsN F hI iX6_all (i := 2 + 4 * jx + 2) (by omega) (by decide) dX6_reseed_106 (fun H locs hI => ?_)
            obtain ⟨c22, ec22⟩ : ∃ z9 : CF, z9 = up c21 41 (2 + 4 * jx + 2) (nI jw) := ⟨_, rfl⟩
            have hI : Iv E s H locs (c22, u.2) := by rw [ec22]; exact hI
            have hoth23 : ∀ q i, q ≠ 41 → c22 q i = v20 q i := fun q9 i9 a9 => by rw [ec22, up_at, if_neg (by omega), ec21, up_at, if_neg (by omega)]
            refine lv_aload_n hx hy dX6_reseed_107 rfl (lv_at hl 1 rfl) ?_
            refine lv_iload hx hy dX6_reseed_108 (lv_at hl 0 rfl) ?_
            refine zI hI (xV F hI hl (kX6_acted l E ((c22, u.2)) (act_hh (c1 := c22) hH.1 hp18 hoth23) hh4 (nI ((X.1.2.2 jx).2.1))) M_X6_77 (rX6 F hI) rfl ⟨Nat.le_of_ble_eq_true rfl, Nat.le_of_ble_eq_true rfl⟩ ⟨Nat.zero_le _, Nat.zero_le _⟩ rfl (Nat.le_of_ble_eq_true rfl) dX6_reseed_110) (fun r25 v26 H locs hI hp24 => ?_)
            obtain ⟨hra, hact⟩ := hp24
            subst hra
            exact rI hQ F (v := (v26, u.2)) hI dX6_reseed_113 (by rw [a_reseed, withL_s hxx, withR_s hxy, withR_s hxw, if_neg (fun q9 => q9 h13), if_neg (fun q9 => absurd q9.1 h17)]; exact ⟨rfl, act_end hC hX hp18 hoth23 (by rw [ec22, ec21]; exact hA1.src hljx h13) hn16 hact⟩)
          · have h17 : (X.1.2.2 jx).2.1 = jy := (nI_eq (a := (X.1.2.2 jx).2.1) (b := jy) (by omega) (by omega)).mp h17
            refine lv_aload_n hx hy dX6_reseed_64 rfl (lv_at hl 1 rfl) ?_
            refine lv_iload_n hx hy dX6_reseed_65 rfl (lv_at hl 2 rfl) ?_
            refine lv_iconst (v := nI 2) hx hy dX6_reseed_66 (by decide) ?_
            refine zI hI (xV F hI hl (kX6_of l E (u) jx 2 (by omega) (by omega)) M_X6_100 (rX6 F hI) rfl ⟨Nat.le_of_ble_eq_true rfl, Nat.le_of_ble_eq_true rfl⟩ ⟨Nat.zero_le _, Nat.zero_le _⟩ rfl (Nat.le_of_ble_eq_true rfl) dX6_reseed_67) (fun r28 v29 H locs hI hp27 => ?_)
            subst hp27
            refine tI (show u.1 41 (2 + 4 * jx + 2) = nI (X.1.2.2 jx).2.2.1 by rw [← wM_2 (by omega)]; have h9 := (hA.2.2 jx hljx).2.2.1; rw [Nat.zero_add] at h9; exact h9) ?_
            refine lv_iload_n hx hy dX6_reseed_70 rfl (lv_at hl 4 rfl) ?_
            refine lv_icmp_ne (tgt := 77) hx hy dX6_reseed_71 (by decide) (fun h30 => ?_) (fun h30 => ?_)
            · have h30 : (X.1.2.2 jx).2.2.1 ≠ jw := fun q9 => h30 ((nI_eq (a := (X.1.2.2 jx).2.2.1) (b := jw) (by omega) (by omega)).mpr q9)
              refine lv_aload_n hx hy dX6_reseed_77 rfl (lv_at hl 1 rfl) ?_
              refine zV hI (xV F hI hl (kX6_remember l E (u)) M_X6_70 (rX6 F hI) rfl ⟨Nat.le_of_ble_eq_true rfl, Nat.le_of_ble_eq_true rfl⟩ ⟨Nat.zero_le _, Nat.zero_le _⟩ rfl (Nat.le_of_ble_eq_true rfl) dX6_reseed_78) (fun v33 H locs hI hp31 => ?_)
              have hK1 : RowM v33 42 0 X.1 := hp31.row hA hn16
              have hA1 : RowM v33 41 0 X.1 := hA.keep hn16 (fun i _ _ => hp31.2 _ _ (by omega))
              refine lv_aload_n hx hy dX6_reseed_81 rfl (lv_at hl 1 rfl) ?_
              refine gX6_all F hI L_X6_7 dX6_reseed_82 ?_
              refine lv_iconst (v := nI 2) hx hy dX6_reseed_85 (by decide) ?_
              refine lv_iconst (v := nI 4) hx hy dX6_reseed_86 (by decide) ?_
              refine lv_iload_n hx hy dX6_reseed_87 rfl (lv_at hl 2 rfl) ?_
              refine lv_imul hx hy dX6_reseed_88 ?_
              refine tI (pk_mul (4) (jx)) ?_
              refine lv_iadd hx hy dX6_reseed_89 ?_
              refine tI (nI_add (2) (4 * jx)) ?_
              refine lv_iconst (v := nI 1) hx hy dX6_reseed_90 (by decide) ?_
              refine lv_iadd hx hy dX6_reseed_91 ?_
              refine tI (nI_add (2 + 4 * jx) (1)) ?_
              refine lv_iload_n hx hy dX6_reseed_92 rfl (lv_at hl 3 rfl) ?_
              refine aIsN F hI iX6_all (i := 2 + 4 * jx + 1) (by omega) (by decide) dX6_reseed_93 (fun H locs hI => ?_)
              obtain ⟨c34, ec34⟩ : ∃ z9 : CF, z9 = up v33 41 (2 + 4 * jx + 1) (nI jy) := ⟨_, rfl⟩
              have hI : Iv E s H locs (c34, u.2) := by rw [ec34]; exact hI
              refine lv_aload_n hx hy dX6_reseed_94 rfl (lv_at hl 1 rfl) ?_
              refine gX6_all F hI L_X6_7 dX6_reseed_95 ?_
              refine lv_iconst (v := nI 2) hx hy dX6_reseed_98 (by decide) ?_
              refine lv_iconst (v := nI 4) hx hy dX6_reseed_99 (by decide) ?_
              refine lv_iload_n hx hy dX6_reseed_100 rfl (lv_at hl 2 rfl) ?_
              refine lv_imul hx hy dX6_reseed_101 ?_
              refine tI (pk_mul (4) (jx)) ?_
              refine lv_iadd hx hy dX6_reseed_102 ?_
              refine tI (nI_add (2) (4 * jx)) ?_
              refine lv_iconst (v := nI 2) hx hy dX6_reseed_103 (by decide) ?_
              refine lv_iadd hx hy dX6_reseed_104 ?_
              refine tI (nI_add (2 + 4 * jx) (2)) ?_
              refine lv_iload_n hx hy dX6_reseed_105 rfl (lv_at hl 4 rfl) ?_
              refine aIsN F hI iX6_all (i := 2 + 4 * jx + 2) (by omega) (by decide) dX6_reseed_106 (fun H locs hI => ?_)
              obtain ⟨c35, ec35⟩ : ∃ z9 : CF, z9 = up c34 41 (2 + 4 * jx + 2) (nI jw) := ⟨_, rfl⟩
              have hI : Iv E s H locs (c35, u.2) := by rw [ec35]; exact hI
              have hoth36 : ∀ q i, q ≠ 41 → c35 q i = v33 q i := fun q9 i9 a9 => by rw [ec35, up_at, if_neg (by omega), ec34, up_at, if_neg (by omega)]
              refine lv_aload_n hx hy dX6_reseed_107 rfl (lv_at hl 1 rfl) ?_
              refine lv_iload hx hy dX6_reseed_108 (lv_at hl 0 rfl) ?_
              refine zI hI (xV F hI hl (kX6_acted l E ((c35, u.2)) (act_hh (c1 := c35) hH.1 hp31 hoth36) hh4 (nI ((X.1.2.2 jx).2.1))) M_X6_77 (rX6 F hI) rfl ⟨Nat.le_of_ble_eq_true rfl, Nat.le_of_ble_eq_true rfl⟩ ⟨Nat.zero_le _, Nat.zero_le _⟩ rfl (Nat.le_of_ble_eq_true rfl) dX6_reseed_110) (fun r38 v39 H locs hI hp37 => ?_)
              obtain ⟨hra, hact⟩ := hp37
              subst hra
              exact rI hQ F (v := (v39, u.2)) hI dX6_reseed_113 (by rw [a_reseed, withL_s hxx, withR_s hxy, withR_s hxw, if_neg (fun q9 => q9 h13), if_neg (fun q9 => absurd q9.2 h30)]; exact ⟨rfl, act_end hC hX hp31 hoth36 (by rw [ec35, ec34]; exact hA1.src hljx h13) hn16 hact⟩)
            · have h30 : (X.1.2.2 jx).2.2.1 = jw := (nI_eq (a := (X.1.2.2 jx).2.2.1) (b := jw) (by omega) (by omega)).mp h30
              refine zc F K_X6_85 dX6_reseed_74 ?_
              exact rI hQ F (v := (u.1, u.2)) hI dX6_reseed_76 (by rw [a_reseed, withL_s hxx, withR_s hxy, withR_s hxw, if_neg (fun q9 => q9 h13), if_pos ⟨h17, h30⟩]; exact ⟨rfl, hC, SameC.rf _⟩)
        · have h13 : (X.1.2.2 jx).1 ≠ 0 := fun q9 => h13 ((nI_eq (a := (X.1.2.2 jx).1) (b := 0) (by omega) (by omega)).mpr q9)
          refine zc F K_X6_104 dX6_reseed_47 ?_
          exact rI hQ F (v := (u.1, u.2)) hI dX6_reseed_49 (by rw [a_reseed, withL_s hxx, withR_s hxy, withR_s hxw, if_pos h13]; exact ⟨rfl, hC, SameC.rf _⟩)
set_option maxHeartbeats 400000 in
set_option maxRecDepth 100000 in
theorem kX6_removeLast (l : Launch) (E : EV) (u : SS) {X : XS} (hC : RepM u.1 X) (hX : XOk X) : CT l yX6_removeLast cX6_removeLast 1 (some .int) (Rm 1 22) [.ref (eA E 48)] E u (Q_i E (fun r v => r = (a_removeLast X).1 ∧ RepM v.1 (a_removeLast X).2 ∧ SameC u.1 v.1) (fun (v : SS) => v)) := by
  refine mstart RX6 (by decide +kernel) rfl (Nat.le_of_ble_eq_true rfl) ?_
  intro p e s m args below meth co ls Q hQ F hI hl
  have hx := F.1
  have hy := F.2.1
  have hl : lv_has ls 1 [(0, .ref (eA E 48))] := hl
  have hC2 := hC
  obtain ⟨hA, hH, hS, hT⟩ := hC2
  have hn16 := hX.1.1
  have hl1 := hX.1.2.1
  have hl2 := hX.1.2.2.1
  have hh4 := hX.2.1.1
  have hs1 := hX.2.2.1.1
  have ht80 := hX.2.2.2.1
  refine lv_aload_n hx hy dX6_removeLast_0 rfl (lv_at hl 0 rfl) ?_
  refine gX6_all F hI L_X6_7 dX6_removeLast_1 ?_
  refine lv_iconst (v := nI 0) hx hy dX6_removeLast_4 (by decide) ?_
  refine aIlN F hI iX6_all (i := 0) (by omega) (by decide) dX6_removeLast_5 ?_
  refine tI hA.1 ?_
  refine lv_if_ne (tgt := 12) hx hy dX6_removeLast_6 (by decide) (fun h1 => ?_) (fun h1 => ?_)
  · have h1 : X.1.1 ≠ 0 := fun q9 => h1 ((nI_eq (a := X.1.1) (b := 0) (by omega) (by omega)).mpr q9)
    refine lv_aload_n hx hy dX6_removeLast_12 rfl (lv_at hl 0 rfl) ?_
    refine zV hI (xV F hI hl (kX6_remember l E (u)) M_X6_70 (rX6 F hI) rfl ⟨Nat.le_of_ble_eq_true rfl, Nat.le_of_ble_eq_true rfl⟩ ⟨Nat.zero_le _, Nat.zero_le _⟩ rfl (Nat.le_of_ble_eq_true rfl) dX6_removeLast_13) (fun v4 H locs hI hp2 => ?_)
    have hK1 : RowM v4 42 0 X.1 := hp2.row hA hn16
    have hA1 : RowM v4 41 0 X.1 := hA.keep hn16 (fun i _ _ => hp2.2 _ _ (by omega))
    refine lv_aload_n hx hy dX6_removeLast_16 rfl (lv_at hl 0 rfl) ?_
    refine gX6_all F hI L_X6_7 dX6_removeLast_17 ?_
    refine lv_iconst (v := nI 0) hx hy dX6_removeLast_20 (by decide) ?_
    refine lv_dup2_11 hx hy dX6_removeLast_21 rfl rfl ?_
    refine aIlN F hI iX6_all (i := 0) (by omega) (by decide) dX6_removeLast_22 ?_
    refine tI (show _ = v4 41 0 from rfl) ?_
    refine tI hA1.1 ?_
    refine lv_iconst (v := nI 1) hx hy dX6_removeLast_23 (by decide) ?_
    refine lv_isub hx hy dX6_removeLast_24 ?_
    refine tI (pk_sub (a := X.1.1) (b := 1) (by omega)) ?_
    refine aIsN F hI iX6_all (i := 0) (by omega) (by decide) dX6_removeLast_25 (fun H locs hI => ?_)
    obtain ⟨c5, ec5⟩ : ∃ z9 : CF, z9 = up v4 41 0 (nI (X.1.1 - 1)) := ⟨_, rfl⟩
    have hI : Iv E s H locs (c5, u.2) := by rw [ec5]; exact hI
    have hoth6 : ∀ q i, q ≠ 41 → c5 q i = v4 q i := fun q9 i9 a9 => by rw [ec5, up_at, if_neg (by omega)]
    refine lv_aload_n hx hy dX6_removeLast_26 rfl (lv_at hl 0 rfl) ?_
    refine lv_aload_n hx hy dX6_removeLast_27 rfl (lv_at hl 0 rfl) ?_
    refine gX6_all F hI L_X6_7 dX6_removeLast_28 ?_
    refine lv_iconst (v := nI 0) hx hy dX6_removeLast_31 (by decide) ?_
    refine aIlN F hI iX6_all (i := 0) (by omega) (by decide) dX6_removeLast_32 ?_
    refine tI (show _ = c5 41 0 from rfl) ?_
    refine tI (show c5 41 0 = nI (X.1.1 - 1) by rw [ec5]; exact up_s _ _ _ _) ?_
    refine zI hI (xV F hI hl (kX6_acted l E ((c5, u.2)) (act_hh (c1 := c5) hH.1 hp2 hoth6) hh4 (nI (X.1.1 - 1))) M_X6_77 (rX6 F hI) rfl ⟨Nat.le_of_ble_eq_true rfl, Nat.le_of_ble_eq_true rfl⟩ ⟨Nat.zero_le _, Nat.zero_le _⟩ rfl (Nat.le_of_ble_eq_true rfl) dX6_removeLast_33) (fun r8 v9 H locs hI hp7 => ?_)
    obtain ⟨hra, hact⟩ := hp7
    subst hra
    exact rI hQ F (v := (v9, u.2)) hI dX6_removeLast_36 (by rw [a_removeLast, if_neg h1]; exact ⟨rfl, act_end hC hX hp2 hoth6 (by rw [ec5]; exact hA1.drop (by omega)) (by show X.1.1 - 1 ≤ 16; omega) hact⟩)
  · have h1 : X.1.1 = 0 := (nI_eq (a := X.1.1) (b := 0) (by omega) (by omega)).mp h1
    refine zc F K_X6_85 dX6_removeLast_9 ?_
    exact rI hQ F (v := (u.1, u.2)) hI dX6_removeLast_11 (by rw [a_removeLast, if_pos h1]; exact ⟨rfl, hC, SameC.rf _⟩)
set_option maxHeartbeats 400000 in
set_option maxRecDepth 100000 in
theorem kX6_setLength (l : Launch) (E : EV) (u : SS) {X : XS} (hC : RepM u.1 X) (hX : XOk X) (x : Int32) : CT l yX6_setLength cX6_setLength 3 (some .int) (Rm 1 25) [.ref (eA E 48), .int (x)] E u (Q_i E (fun r v => r = (a_setLength X x).1 ∧ RepM v.1 (a_setLength X x).2 ∧ SameC u.1 v.1) (fun (v : SS) => v)) := by
  refine mstart RX6 (by decide +kernel) rfl (Nat.le_of_ble_eq_true rfl) ?_
  intro p e s m args below meth co ls Q hQ F hI hl
  have hx := F.1
  have hy := F.2.1
  have hl : lv_has ls 3 [(0, .ref (eA E 48)), (1, .int (x))] := hl
  have hC2 := hC
  obtain ⟨hA, hH, hS, hT⟩ := hC2
  have hn16 := hX.1.1
  have hl1 := hX.1.2.1
  have hl2 := hX.1.2.2.1
  have hh4 := hX.2.1.1
  have hs1 := hX.2.2.1.1
  have ht80 := hX.2.2.2.1
  refine lv_iload_n hx hy dX6_setLength_0 rfl (lv_at hl 1 rfl) ?_
  refine lv_i2l (v := Int32.toInt64 x) hx hy dX6_setLength_1 rfl ?_
  refine lv_lconst (v := lN 1) hx hy dX6_setLength_2 (by decide) ?_
  refine zcl F K_X6_105 dX6_setLength_3 ?_
  refine tL (show _ = lN 1000 from rfl) ?_
  refine zI hI (xS F hI hl (kX6_in l E (u) (Int32.toInt64 x) (lN 1) (lN 1000)) M_X6_65 rfl ⟨Nat.le_of_ble_eq_true rfl, Nat.le_of_ble_eq_true rfl⟩ ⟨Nat.zero_le _, Nat.zero_le _⟩ rfl (Nat.le_of_ble_eq_true rfl) dX6_setLength_6) (fun r2 v3 H locs hI hp1 => ?_)
  rcases rgO_cases 1 1000 x (by decide) (by decide) with hxx | ⟨jx, hmjx, hljx, rfl, hxx⟩
  · have hp1 : r2 = 0 := hp1.trans (if_neg (fun q9 => by have q8 := (in_rg (a := 1) (b := 1000) (by decide) (by decide) x).mp q9; rw [hxx] at q8; cases q8))
    subst hp1
    refine lv_if_ne (tgt := 15) hx hy dX6_setLength_9 (by decide) (fun q => absurd q (by decide)) (fun _ => ?_)
    refine zc F K_X6_90 dX6_setLength_12 ?_
    exact rI hQ F (v := (u.1, u.2)) hI dX6_setLength_14 (by rw [a_setLength, withR_n hxx]; exact ⟨rfl, hC, SameC.rf _⟩)
  · have hp1 : r2 = 1 := hp1.trans (if_pos ((in_rg (a := 1) (b := 1000) (by decide) (by decide) (nI jx)).mpr (by rw [hxx]; rfl)))
    subst hp1
    refine lv_if_ne (tgt := 15) hx hy dX6_setLength_9 (by decide) (fun _ => ?_) (fun q => absurd q (by decide))
    refine lv_aload_n hx hy dX6_setLength_15 rfl (lv_at hl 0 rfl) ?_
    refine gX6_all F hI L_X6_7 dX6_setLength_16 ?_
    refine lv_iconst (v := nI 1) hx hy dX6_setLength_19 (by decide) ?_
    refine aIlN F hI iX6_all (i := 1) (by omega) (by decide) dX6_setLength_20 ?_
    refine tI hA.2.1 ?_
    refine lv_istore_n (lv' := [(2, .int (nI (X.1.2.1))), (0, .ref (eA E 48)), (1, .int (nI jx))]) hx hy dX6_setLength_21 rfl hl (by decide) rfl (fun ls hl => ?_)
    refine lv_iload_n hx hy dX6_setLength_22 rfl (lv_at hl 0 rfl) ?_
    refine lv_iload_n hx hy dX6_setLength_23 rfl (lv_at hl 2 rfl) ?_
    refine lv_icmp_ne (tgt := 30) hx hy dX6_setLength_24 (by decide) (fun h4 => ?_) (fun h4 => ?_)
    · have h4 : X.1.2.1 ≠ jx := fun q9 => h4 ((nI_eq (a := X.1.2.1) (b := jx) (by omega) (by omega)).mpr q9)
      refine lv_aload_n hx hy dX6_setLength_30 rfl (lv_at hl 1 rfl) ?_
      refine zV hI (xV F hI hl (kX6_remember l E (u)) M_X6_70 (rX6 F hI) rfl ⟨Nat.le_of_ble_eq_true rfl, Nat.le_of_ble_eq_true rfl⟩ ⟨Nat.zero_le _, Nat.zero_le _⟩ rfl (Nat.le_of_ble_eq_true rfl) dX6_setLength_31) (fun v7 H locs hI hp5 => ?_)
      have hK1 : RowM v7 42 0 X.1 := hp5.row hA hn16
      have hA1 : RowM v7 41 0 X.1 := hA.keep hn16 (fun i _ _ => hp5.2 _ _ (by omega))
      refine lv_aload_n hx hy dX6_setLength_34 rfl (lv_at hl 1 rfl) ?_
      refine gX6_all F hI L_X6_7 dX6_setLength_35 ?_
      refine lv_iconst (v := nI 1) hx hy dX6_setLength_38 (by decide) ?_
      refine lv_iload_n hx hy dX6_setLength_39 rfl (lv_at hl 2 rfl) ?_
      refine aIsN F hI iX6_all (i := 1) (by omega) (by decide) dX6_setLength_40 (fun H locs hI => ?_)
      obtain ⟨c8, ec8⟩ : ∃ z9 : CF, z9 = up v7 41 1 (nI jx) := ⟨_, rfl⟩
      have hI : Iv E s H locs (c8, u.2) := by rw [ec8]; exact hI
      have hoth9 : ∀ q i, q ≠ 41 → c8 q i = v7 q i := fun q9 i9 a9 => by rw [ec8, up_at, if_neg (by omega)]
      refine lv_aload_n hx hy dX6_setLength_41 rfl (lv_at hl 1 rfl) ?_
      refine lv_iload_n hx hy dX6_setLength_42 rfl (lv_at hl 0 rfl) ?_
      refine zI hI (xV F hI hl (kX6_acted l E ((c8, u.2)) (act_hh (c1 := c8) hH.1 hp5 hoth9) hh4 (nI (X.1.2.1))) M_X6_77 (rX6 F hI) rfl ⟨Nat.le_of_ble_eq_true rfl, Nat.le_of_ble_eq_true rfl⟩ ⟨Nat.zero_le _, Nat.zero_le _⟩ rfl (Nat.le_of_ble_eq_true rfl) dX6_setLength_43) (fun r11 v12 H locs hI hp10 => ?_)
      obtain ⟨hra, hact⟩ := hp10
      subst hra
      exact rI hQ F (v := (v12, u.2)) hI dX6_setLength_46 (by rw [a_setLength, withR_s hxx, if_neg h4]; exact ⟨rfl, act_end hC hX hp5 hoth9 (by rw [ec8]; exact hA1.len) hn16 hact⟩)
    · have h4 : X.1.2.1 = jx := (nI_eq (a := X.1.2.1) (b := jx) (by omega) (by omega)).mp h4
      refine zc F K_X6_85 dX6_setLength_27 ?_
      exact rI hQ F (v := (u.1, u.2)) hI dX6_setLength_29 (by rw [a_setLength, withR_s hxx, if_pos h4]; exact ⟨rfl, hC, SameC.rf _⟩)
set_option maxHeartbeats 400000 in
set_option maxRecDepth 100000 in
theorem kX6_type (l : Launch) (E : EV) (u : SS) {X : XS} (hC : RepM u.1 X) (hX : XOk X) (ch : Nat) (hc : ch < 65536) : CT l yX6_type cX6_type 2 (some .int) (Rm 0 0) [.ref (eA E 48), .int (nI ch)] E u (Q_i E (fun r v => r = (a_type X ch).1 ∧ RepM v.1 (a_type X ch).2 ∧ SameC u.1 v.1) (fun (v : SS) => v)) := by
  refine mstart RX6 (by decide +kernel) rfl (Nat.le_of_ble_eq_true rfl) ?_
  intro p e s m args below meth co ls Q hQ F hI hl
  have hx := F.1
  have hy := F.2.1
  have hl : lv_has ls 2 [(0, .ref (eA E 48)), (1, .int (nI ch))] := hl
  have hC2 := hC
  obtain ⟨hA, hH, hS, hT⟩ := hC2
  have hn16 := hX.1.1
  have hl1 := hX.1.2.1
  have hl2 := hX.1.2.2.1
  have hh4 := hX.2.1.1
  have hs1 := hX.2.2.1.1
  have ht80 := hX.2.2.2.1
  refine lv_aload_n hx hy dX6_type_0 rfl (lv_at hl 0 rfl) ?_
  refine gX6_textLong F hI L_X6_140 dX6_type_1 ?_
  refine tI hT.1 ?_
  refine lv_bipush (v := nI 80) hx hy dX6_type_4 (by decide) ?_
  refine lv_icmp_ne (tgt := 12) hx hy dX6_type_6 (by decide) (fun h1 => ?_) (fun h1 => ?_)
  · have h1 : X.2.2.2.1 ≠ 80 := fun q9 => h1 ((nI_eq (a := X.2.2.2.1) (b := 80) (by omega) (by omega)).mpr q9)
    refine lv_aload_n hx hy dX6_type_12 rfl (lv_at hl 0 rfl) ?_
    refine gX6_text F hI L_X6_35 dX6_type_13 ?_
    refine lv_aload_n hx hy dX6_type_16 rfl (lv_at hl 0 rfl) ?_
    refine gX6_textLong F hI L_X6_140 dX6_type_17 ?_
    refine tI hT.1 ?_
    refine lv_iload_n hx hy dX6_type_20 rfl (lv_at hl 1 rfl) ?_
    refine aIsN F hI iX6_text (i := X.2.2.2.1) (by omega) (by decide) dX6_type_21 (fun H locs hI => ?_)
    obtain ⟨c2, ec2⟩ : ∃ z9 : CF, z9 = up u.1 48 (X.2.2.2.1) (nI ch) := ⟨_, rfl⟩
    have hI : Iv E s H locs (c2, u.2) := by rw [ec2]; exact hI
    have kf3 : c2 41 0 = nI X.1.1 := by rw [ec2, up_at, if_neg (by omega)]; exact hA.1
    have kf4 : c2 41 1 = nI X.1.2.1 := by rw [ec2, up_at, if_neg (by omega)]; exact hA.2.1
    have kf5 : c2 40 0 = nI X.2.1.1 := by rw [ec2, up_at, if_neg (by omega)]; exact hH.1
    have kf6 : c2 40 1 = nI X.2.2.1.1 := by rw [ec2, up_at, if_neg (by omega)]; exact hS.1
    have kf7 : c2 40 2 = nI X.2.2.2.1 := by rw [ec2, up_at, if_neg (by omega)]; exact hT.1
    refine lv_aload_n hx hy dX6_type_22 rfl (lv_at hl 0 rfl) ?_
    refine lv_dup hx hy dX6_type_23 rfl ?_
    refine gX6_textLong F hI L_X6_140 dX6_type_24 ?_
    refine tI (show _ = c2 40 2 from rfl) ?_
    refine tI kf7 ?_
    refine lv_iconst (v := nI 1) hx hy dX6_type_27 (by decide) ?_
    refine lv_iadd hx hy dX6_type_28 ?_
    refine tI (nI_add (X.2.2.2.1) (1)) ?_
    refine pX6_textLong F hI L_X6_140 dX6_type_29 (fun H locs hI => ?_)
    obtain ⟨c8, ec8⟩ : ∃ z9 : CF, z9 = up c2 40 2 (nI (X.2.2.2.1 + 1)) := ⟨_, rfl⟩
    have hI : Iv E s H locs (c8, u.2) := by rw [ec8]; exact hI
    have kf9 : c8 41 0 = nI X.1.1 := by rw [ec8, up_at, if_neg (by omega)]; exact kf3
    have kf10 : c8 41 1 = nI X.1.2.1 := by rw [ec8, up_at, if_neg (by omega)]; exact kf4
    refine lv_aload_n hx hy dX6_type_32 rfl (lv_at hl 0 rfl) ?_
    refine gX6_textLong F hI L_X6_140 dX6_type_33 ?_
    refine tI (show _ = c8 40 2 from rfl) ?_
    refine tI (show c8 40 2 = nI (X.2.2.2.1 + 1) by rw [ec8]; exact up_s _ _ _ _) ?_
    exact rI hQ F (v := (c8, u.2)) hI dX6_type_36 (by rw [a_type, if_neg (by omega)]; exact ⟨rfl, text_repM (c := c8) hC hX (fun q9 i9 a9 b9 => by rw [ec8, up_at, if_neg (by omega), ec2, up_at, if_neg (by omega)]) (by rw [ec8, ec2]; exact type_txM hT)⟩)
  · have h1 : X.2.2.2.1 = 80 := (nI_eq (a := X.2.2.2.1) (b := 80) (by omega) (by omega)).mp h1
    refine zc F K_X6_69 dX6_type_9 ?_
    exact rI hQ F (v := (u.1, u.2)) hI dX6_type_11 (by rw [a_type, if_pos (by omega)]; exact ⟨rfl, hC, SameC.rf _⟩)
set_option maxHeartbeats 400000 in
set_option maxRecDepth 100000 in
theorem kX6_clearText (l : Launch) (E : EV) (u : SS) {X : XS} (hC : RepM u.1 X) (hX : XOk X) : CT l yX6_clearText cX6_clearText 2 (some .int) (Rm 0 0) [.ref (eA E 48)] E u (Q_i E (fun r v => r = (a_clear X).1 ∧ RepM v.1 (a_clear X).2 ∧ SameC u.1 v.1) (fun (v : SS) => v)) := by
  refine mstart RX6 (by decide +kernel) rfl (Nat.le_of_ble_eq_true rfl) ?_
  intro p e s m args below meth co ls Q hQ F hI hl
  have hx := F.1
  have hy := F.2.1
  have hl : lv_has ls 2 [(0, .ref (eA E 48))] := hl
  have hC2 := hC
  obtain ⟨hA, hH, hS, hT⟩ := hC2
  have hn16 := hX.1.1
  have hl1 := hX.1.2.1
  have hl2 := hX.1.2.2.1
  have hh4 := hX.2.1.1
  have hs1 := hX.2.2.1.1
  have ht80 := hX.2.2.2.1
  refine lv_aload_n hx hy dX6_clearText_0 rfl (lv_at hl 0 rfl) ?_
  refine gX6_textLong F hI L_X6_140 dX6_clearText_1 ?_
  refine tI hT.1 ?_
  refine lv_istore_n (lv' := [(1, .int (nI (X.2.2.2.1))), (0, .ref (eA E 48))]) hx hy dX6_clearText_4 rfl hl (by decide) rfl (fun ls hl => ?_)
  refine lv_aload_n hx hy dX6_clearText_5 rfl (lv_at hl 1 rfl) ?_
  refine lv_iconst (v := nI 0) hx hy dX6_clearText_6 (by decide) ?_
  refine pX6_textLong F hI L_X6_140 dX6_clearText_7 (fun H locs hI => ?_)
  obtain ⟨c1, ec1⟩ : ∃ z9 : CF, z9 = up u.1 40 2 (nI 0) := ⟨_, rfl⟩
  have hI : Iv E s H locs (c1, u.2) := by rw [ec1]; exact hI
  have kf2 : c1 41 0 = nI X.1.1 := by rw [ec1, up_at, if_neg (by omega)]; exact hA.1
  have kf3 : c1 41 1 = nI X.1.2.1 := by rw [ec1, up_at, if_neg (by omega)]; exact hA.2.1
  refine lv_iload_n hx hy dX6_clearText_10 rfl (lv_at hl 0 rfl) ?_
  exact rI hQ F (v := (c1, u.2)) hI dX6_clearText_11 (by have h9 := text_repM (c := c1) (z := (0, X.2.2.2.2)) hC hX (fun q9 i9 a9 b9 => by rw [ec1, up_at, if_neg (by omega)]) ⟨by rw [ec1]; exact up_s _ _ _ _, fun i hi => absurd hi (Nat.not_lt_zero i)⟩; exact ⟨rfl, h9⟩)
set_option maxHeartbeats 400000 in
set_option maxRecDepth 100000 in
theorem kX6_undo (l : Launch) (E : EV) (u : SS) {X : XS} (hC : RepM u.1 X) (hX : XOk X) : CT l yX6_undo cX6_undo 2 (some .int) (Rm 0 0) [.ref (eA E 48)] E u (Q_i E (fun r v => r = (a_undo X).1 ∧ RepM v.1 (a_undo X).2 ∧ SameC u.1 v.1) (fun (v : SS) => v)) := by
  refine mstart RX6 (by decide +kernel) rfl (Nat.le_of_ble_eq_true rfl) ?_
  intro p e s m args below meth co ls Q hQ F hI hl
  have hx := F.1
  have hy := F.2.1
  have hl : lv_has ls 2 [(0, .ref (eA E 48))] := hl
  have hC2 := hC
  obtain ⟨hA, hH, hS, hT⟩ := hC2
  have hn16 := hX.1.1
  have hl1 := hX.1.2.1
  have hl2 := hX.1.2.2.1
  have hh4 := hX.2.1.1
  have hs1 := hX.2.2.1.1
  have ht80 := hX.2.2.2.1
  refine lv_aload_n hx hy dX6_undo_0 rfl (lv_at hl 0 rfl) ?_
  refine gX6_historyLong F hI L_X6_61 dX6_undo_1 ?_
  refine tI hH.1 ?_
  refine lv_if_ne (tgt := 10) hx hy dX6_undo_4 (by decide) (fun h1 => ?_) (fun h1 => ?_)
  · have h1 : X.2.1.1 ≠ 0 := fun q9 => h1 ((nI_eq (a := X.2.1.1) (b := 0) (by omega) (by omega)).mpr q9)
    refine lv_aload_n hx hy dX6_undo_10 rfl (lv_at hl 0 rfl) ?_
    refine lv_dup hx hy dX6_undo_11 rfl ?_
    refine gX6_historyLong F hI L_X6_61 dX6_undo_12 ?_
    refine tI hH.1 ?_
    refine lv_iconst (v := nI 1) hx hy dX6_undo_15 (by decide) ?_
    refine lv_isub hx hy dX6_undo_16 ?_
    refine tI (pk_sub (a := X.2.1.1) (b := 1) (by omega)) ?_
    refine pX6_historyLong F hI L_X6_61 dX6_undo_17 (fun H locs hI => ?_)
    obtain ⟨c2, ec2⟩ : ∃ z9 : CF, z9 = up u.1 40 0 (nI (X.2.1.1 - 1)) := ⟨_, rfl⟩
    have hI : Iv E s H locs (c2, u.2) := by rw [ec2]; exact hI
    have kf3 : c2 41 0 = nI X.1.1 := by rw [ec2, up_at, if_neg (by omega)]; exact hA.1
    have kf4 : c2 41 1 = nI X.1.2.1 := by rw [ec2, up_at, if_neg (by omega)]; exact hA.2.1
    refine lv_iconst (v := nI 0) hx hy dX6_undo_20 (by decide) ?_
    refine lv_istore_n (lv' := [(1, .int (nI 0)), (0, .ref (eA E 48))]) hx hy dX6_undo_21 rfl hl (by decide) rfl (fun ls hl => ?_)
    have lp5 : ∀ (fu : Nat) (k : Nat) (c : CF), (k ≤ 66) → (66 - k < fu) → (CpyR 41 0 43 (66 * (X.2.1.1 - 1)) k c2 c) →  ∀ (H : Heap) (locs : List Loc) (ls : Array Slot), Iv E s H locs ((c, u.2)) → lv_has ls 2 [(1, .int (nI k)), (0, .ref (eA E 48))] → W p l e (Rm 0 0) s m args below meth co H locs 0 0 Q (F0 m 22 ls []) := by
      intro fu
      induction fu with
      | zero => intro k c hk hf hCp; exact absurd hf (Nat.not_lt_zero _)
      | succ fu ih =>
        intro k c hk hf hCp H locs ls hI hl
        have ih_22 := ih
        refine lv_iload_n hx hy dX6_undo_22 rfl (lv_at hl 0 rfl) ?_
        refine lv_bipush (v := nI 66) hx hy dX6_undo_23 (by decide) ?_
        refine lv_icmp_ge (tgt := 54) hx hy dX6_undo_25 (by decide) (fun h6 => ?_) (fun h6 => ?_)
        · have h6 : 66 ≤ k := (nI_leI (a := 66) (b := k) (by omega) (by omega)).mp h6
          refine lv_aload_n hx hy dX6_undo_54 rfl (lv_at hl 1 rfl) ?_
          refine gX6_historyLong F hI L_X6_61 dX6_undo_55 ?_
          refine tI (show _ = c 40 0 from rfl) ?_
          refine tI ((hCp.2 _ _ (by omega)).trans (show c2 40 0 = nI (X.2.1.1 - 1) by rw [ec2]; exact up_s _ _ _ _)) ?_
          exact rI hQ F (v := (c, u.2)) hI dX6_undo_58 (by have e9 : k = 66 := (by omega); rw [e9, ec2] at hCp; rw [a_undo, if_neg h1]; exact ⟨rfl, undo_repM hC hX h1 hCp⟩)
        · have h6 : k < 66 := Nat.lt_of_not_le (fun q9 => h6 ((nI_leI (a := 66) (b := k) (by omega) (by omega)).mpr q9))
          refine lv_aload_n hx hy dX6_undo_28 rfl (lv_at hl 1 rfl) ?_
          refine gX6_all F hI L_X6_7 dX6_undo_29 ?_
          refine lv_iload_n hx hy dX6_undo_32 rfl (lv_at hl 0 rfl) ?_
          refine lv_aload_n hx hy dX6_undo_33 rfl (lv_at hl 1 rfl) ?_
          refine gX6_history F hI L_X6_16 dX6_undo_34 ?_
          refine lv_bipush (v := nI 66) hx hy dX6_undo_37 (by decide) ?_
          refine lv_aload_n hx hy dX6_undo_39 rfl (lv_at hl 1 rfl) ?_
          refine gX6_historyLong F hI L_X6_61 dX6_undo_40 ?_
          refine tI (show _ = c 40 0 from rfl) ?_
          refine tI ((hCp.2 _ _ (by omega)).trans (show c2 40 0 = nI (X.2.1.1 - 1) by rw [ec2]; exact up_s _ _ _ _)) ?_
          refine lv_imul hx hy dX6_undo_43 ?_
          refine tI (pk_mul (66) (X.2.1.1 - 1)) ?_
          refine lv_iload_n hx hy dX6_undo_44 rfl (lv_at hl 0 rfl) ?_
          refine lv_iadd hx hy dX6_undo_45 ?_
          refine tI (nI_add (66 * (X.2.1.1 - 1)) (k)) ?_
          refine aIlN F hI iX6_history (i := 66 * (X.2.1.1 - 1) + k) (by omega) (by decide) dX6_undo_46 ?_
          refine tI (show _ = c 43 (66 * (X.2.1.1 - 1) + k) from rfl) ?_
          refine aIsN F hI iX6_all (i := k) (by omega) (by decide) dX6_undo_47 (fun H locs hI => ?_)
          obtain ⟨c7, ec7⟩ : ∃ z9 : CF, z9 = up c 41 k (c 43 (66 * (X.2.1.1 - 1) + k)) := ⟨_, rfl⟩
          have hI : Iv E s H locs (c7, u.2) := by rw [ec7]; exact hI
          have kf8 : c7 40 0 = nI (X.2.1.1 - 1) := by rw [ec7, up_at, if_neg (by omega)]; exact ((hCp.2 _ _ (by omega)).trans (show c2 40 0 = nI (X.2.1.1 - 1) by rw [ec2]; exact up_s _ _ _ _))
          refine lv_iinc (v := nI (k + 1)) (lv' := [(1, .int (nI (k + 1))), (0, .ref (eA E 48))]) hx hy dX6_undo_48 hl (k := 0) rfl (nI_add (k) 1) (by decide) rfl (fun ls hl => ?_)
          refine lv_goto (tgt := 22) hx hy dX6_undo_51 (by decide) ?_
          exact ih_22 (k + 1) c7 (by omega) (by omega) (hCp.step (Or.inl (by decide)) (by rw [ec7]; simp only [Nat.zero_add])) _ _ _ hI (lv_sub hl [0, 1] rfl)
    exact lp5 67 0 c2 (by omega) (by omega) (CpyR.start _ _ _ _ _) _ _ _ hI (lv_sub hl [0, 1] rfl)
  · have h1 : X.2.1.1 = 0 := (nI_eq (a := X.2.1.1) (b := 0) (by omega) (by omega)).mp h1
    refine zc F K_X6_85 dX6_undo_7 ?_
    exact rI hQ F (v := (u.1, u.2)) hI dX6_undo_9 (by rw [a_undo, if_pos h1]; exact ⟨rfl, hC, SameC.rf _⟩)
set_option maxHeartbeats 400000 in
set_option maxRecDepth 100000 in
theorem kX6_keep (l : Launch) (E : EV) (u : SS) {X : XS} (hC : RepM u.1 X) (hX : XOk X) : CT l yX6_keep cX6_keep 2 (some .int) (Rm 0 0) [.ref (eA E 48)] E u (Q_i E (fun r v => r = (a_keep X).1 ∧ RepM v.1 (a_keep X).2 ∧ SameC u.1 v.1) (fun (v : SS) => v)) := by
  refine mstart RX6 (by decide +kernel) rfl (Nat.le_of_ble_eq_true rfl) ?_
  intro p e s m args below meth co ls Q hQ F hI hl
  have hx := F.1
  have hy := F.2.1
  have hl : lv_has ls 2 [(0, .ref (eA E 48))] := hl
  have hC2 := hC
  obtain ⟨hA, hH, hS, hT⟩ := hC2
  have hn16 := hX.1.1
  have hl1 := hX.1.2.1
  have hl2 := hX.1.2.2.1
  have hh4 := hX.2.1.1
  have hs1 := hX.2.2.1.1
  have ht80 := hX.2.2.2.1
  refine lv_iconst (v := nI 0) hx hy dX6_keep_0 (by decide) ?_
  refine lv_istore_n (lv' := [(1, .int (nI 0)), (0, .ref (eA E 48))]) hx hy dX6_keep_1 rfl hl (by decide) rfl (fun ls hl => ?_)
  have lp1 : ∀ (fu : Nat) (k : Nat) (c : CF), (k ≤ 66) → (66 - k < fu) → (CpyR 44 0 41 0 k u.1 c) →  ∀ (H : Heap) (locs : List Loc) (ls : Array Slot), Iv E s H locs ((c, u.2)) → lv_has ls 2 [(1, .int (nI k)), (0, .ref (eA E 48))] → W p l e (Rm 0 0) s m args below meth co H locs 0 0 Q (F0 m 2 ls []) := by
    intro fu
    induction fu with
    | zero => intro k c hk hf hCp; exact absurd hf (Nat.not_lt_zero _)
    | succ fu ih =>
      intro k c hk hf hCp H locs ls hI hl
      have ih_2 := ih
      refine lv_iload_n hx hy dX6_keep_2 rfl (lv_at hl 0 rfl) ?_
      refine lv_bipush (v := nI 66) hx hy dX6_keep_3 (by decide) ?_
      refine lv_icmp_ge (tgt := 26) hx hy dX6_keep_5 (by decide) (fun h2 => ?_) (fun h2 => ?_)
      · have h2 : 66 ≤ k := (nI_leI (a := 66) (b := k) (by omega) (by omega)).mp h2
        refine lv_aload_n hx hy dX6_keep_26 rfl (lv_at hl 1 rfl) ?_
        refine lv_iconst (v := nI 1) hx hy dX6_keep_27 (by decide) ?_
        refine pX6_isTaken F hI L_X6_190 dX6_keep_28 (fun H locs hI => ?_)
        obtain ⟨c3, ec3⟩ : ∃ z9 : CF, z9 = up c 40 1 (nI 1) := ⟨_, rfl⟩
        have hI : Iv E s H locs (c3, u.2) := by rw [ec3]; exact hI
        have hCp9 : CpyR 44 0 41 0 66 u.1 c := by rw [show 66 = k from by omega]; exact hCp
        refine lv_aload_n hx hy dX6_keep_31 rfl (lv_at hl 1 rfl) ?_
        refine gX6_all F hI L_X6_7 dX6_keep_32 ?_
        refine lv_iconst (v := nI 0) hx hy dX6_keep_35 (by decide) ?_
        refine aIlN F hI iX6_all (i := 0) (by omega) (by decide) dX6_keep_36 ?_
        refine tI (show _ = c3 41 0 from rfl) ?_
        refine tI (show c3 41 0 = nI X.1.1 by rw [ec3]; exact (keep_repM hC hX hCp9).1.1.1) ?_
        exact rI hQ F (v := (c3, u.2)) hI dX6_keep_37 (by have h9 := keep_repM hC hX hCp9; rw [← ec3] at h9; exact ⟨rfl, h9⟩)
      · have h2 : k < 66 := Nat.lt_of_not_le (fun q9 => h2 ((nI_leI (a := 66) (b := k) (by omega) (by omega)).mpr q9))
        refine lv_aload_n hx hy dX6_keep_8 rfl (lv_at hl 1 rfl) ?_
        refine gX6_snapshot F hI L_X6_19 dX6_keep_9 ?_
        refine lv_iload_n hx hy dX6_keep_12 rfl (lv_at hl 0 rfl) ?_
        refine lv_aload_n hx hy dX6_keep_13 rfl (lv_at hl 1 rfl) ?_
        refine gX6_all F hI L_X6_7 dX6_keep_14 ?_
        refine lv_iload_n hx hy dX6_keep_17 rfl (lv_at hl 0 rfl) ?_
        refine aIlN F hI iX6_all (i := k) (by omega) (by decide) dX6_keep_18 ?_
        refine tI (show _ = c 41 k from rfl) ?_
        refine aIsN F hI iX6_snapshot (i := k) (by omega) (by decide) dX6_keep_19 (fun H locs hI => ?_)
        obtain ⟨c4, ec4⟩ : ∃ z9 : CF, z9 = up c 44 k (c 41 k) := ⟨_, rfl⟩
        have hI : Iv E s H locs (c4, u.2) := by rw [ec4]; exact hI
        refine lv_iinc (v := nI (k + 1)) (lv' := [(1, .int (nI (k + 1))), (0, .ref (eA E 48))]) hx hy dX6_keep_20 hl (k := 0) rfl (nI_add (k) 1) (by decide) rfl (fun ls hl => ?_)
        refine lv_goto (tgt := 2) hx hy dX6_keep_23 (by decide) ?_
        exact ih_2 (k + 1) c4 (by omega) (by omega) (hCp.step (Or.inl (by decide)) (by rw [ec4]; simp only [Nat.zero_add])) _ _ _ hI (lv_sub hl [0, 1] rfl)
  exact lp1 67 0 u.1 (by omega) (by omega) (CpyR.start _ _ _ _ _) _ _ _ hI (lv_sub hl [0, 1] rfl)
set_option maxHeartbeats 400000 in
set_option maxRecDepth 100000 in
theorem kX6_restore (l : Launch) (E : EV) (u : SS) {X : XS} (hC : RepM u.1 X) (hX : XOk X) : CT l yX6_restore cX6_restore 2 (some .int) (Rm 1 22) [.ref (eA E 48)] E u (Q_i E (fun r v => r = (a_restore X).1 ∧ RepM v.1 (a_restore X).2 ∧ SameC u.1 v.1) (fun (v : SS) => v)) := by
  refine mstart RX6 (by decide +kernel) rfl (Nat.le_of_ble_eq_true rfl) ?_
  intro p e s m args below meth co ls Q hQ F hI hl
  have hx := F.1
  have hy := F.2.1
  have hl : lv_has ls 2 [(0, .ref (eA E 48))] := hl
  have hC2 := hC
  obtain ⟨hA, hH, hS, hT⟩ := hC2
  have hn16 := hX.1.1
  have hl1 := hX.1.2.1
  have hl2 := hX.1.2.2.1
  have hh4 := hX.2.1.1
  have hs1 := hX.2.2.1.1
  have ht80 := hX.2.2.2.1
  refine lv_aload_n hx hy dX6_restore_0 rfl (lv_at hl 0 rfl) ?_
  refine gX6_isTaken F hI L_X6_190 dX6_restore_1 ?_
  refine tI hS.1 ?_
  refine lv_if_ne (tgt := 10) hx hy dX6_restore_4 (by decide) (fun h1 => ?_) (fun h1 => ?_)
  · have h1 : X.2.2.1.1 ≠ 0 := fun q9 => h1 ((nI_eq (a := X.2.2.1.1) (b := 0) (by omega) (by omega)).mpr q9)
    refine lv_aload_n hx hy dX6_restore_10 rfl (lv_at hl 0 rfl) ?_
    refine zV hI (xV F hI hl (kX6_remember l E (u)) M_X6_70 (rX6 F hI) rfl ⟨Nat.le_of_ble_eq_true rfl, Nat.le_of_ble_eq_true rfl⟩ ⟨Nat.zero_le _, Nat.zero_le _⟩ rfl (Nat.le_of_ble_eq_true rfl) dX6_restore_11) (fun v4 H locs hI hp2 => ?_)
    have hK1 : RowM v4 42 0 X.1 := hp2.row hA hn16
    have hA1 : RowM v4 41 0 X.1 := hA.keep hn16 (fun i _ _ => hp2.2 _ _ (by omega))
    refine lv_iconst (v := nI 0) hx hy dX6_restore_14 (by decide) ?_
    refine lv_istore_n (lv' := [(1, .int (nI 0)), (0, .ref (eA E 48))]) hx hy dX6_restore_15 rfl hl (by decide) rfl (fun ls hl => ?_)
    have lp5 : ∀ (fu : Nat) (k : Nat) (c : CF), (k ≤ 66) → (66 - k < fu) → (CpyR 41 0 44 0 k v4 c) →  ∀ (H : Heap) (locs : List Loc) (ls : Array Slot), Iv E s H locs ((c, u.2)) → lv_has ls 2 [(1, .int (nI k)), (0, .ref (eA E 48))] → W p l e (Rm 1 22) s m args below meth co H locs 0 0 Q (F0 m 16 ls []) := by
      intro fu
      induction fu with
      | zero => intro k c hk hf hCp; exact absurd hf (Nat.not_lt_zero _)
      | succ fu ih =>
        intro k c hk hf hCp H locs ls hI hl
        have ih_16 := ih
        refine lv_iload_n hx hy dX6_restore_16 rfl (lv_at hl 0 rfl) ?_
        refine lv_bipush (v := nI 66) hx hy dX6_restore_17 (by decide) ?_
        refine lv_icmp_ge (tgt := 40) hx hy dX6_restore_19 (by decide) (fun h6 => ?_) (fun h6 => ?_)
        · have h6 : 66 ≤ k := (nI_leI (a := 66) (b := k) (by omega) (by omega)).mp h6
          have hCp9 : CpyR 41 0 44 0 66 v4 c := by rw [show 66 = k from by omega]; exact hCp
          have hsk := hX.2.2.1.2 (by omega)
          have hsn := hsk.1
          have hrs : RowM v4 44 0 X.2.2.1.2 := (hS.2 (by omega)).keep hsn (fun i _ _ => hp2.2 _ _ (by omega))
          have hrz := hCp9.row hrs hsn
          refine lv_aload_n hx hy dX6_restore_40 rfl (lv_at hl 1 rfl) ?_
          refine lv_aload_n hx hy dX6_restore_41 rfl (lv_at hl 1 rfl) ?_
          refine gX6_all F hI L_X6_7 dX6_restore_42 ?_
          refine lv_iconst (v := nI 0) hx hy dX6_restore_45 (by decide) ?_
          refine aIlN F hI iX6_all (i := 0) (by omega) (by decide) dX6_restore_46 ?_
          refine tI (show _ = c 41 0 from rfl) ?_
          refine tI hrz.1 ?_
          refine zI hI (xV F hI hl (kX6_acted l E ((c, u.2)) (act_hh (c1 := c) hH.1 hp2 (fun q9 i9 a9 => hCp9.2 q9 i9 (by omega))) hh4 (nI (X.2.2.1.2.1))) M_X6_77 (rX6 F hI) rfl ⟨Nat.le_of_ble_eq_true rfl, Nat.le_of_ble_eq_true rfl⟩ ⟨Nat.zero_le _, Nat.zero_le _⟩ rfl (Nat.le_of_ble_eq_true rfl) dX6_restore_47) (fun r8 v9 H locs hI hp7 => ?_)
          obtain ⟨hra, hact⟩ := hp7
          subst hra
          exact rI hQ F (v := (v9, u.2)) hI dX6_restore_50 (by rw [a_restore, if_neg h1]; exact ⟨rfl, act_end hC hX hp2 (fun q9 i9 a9 => hCp9.2 q9 i9 (by omega)) hrz hsn hact⟩)
        · have h6 : k < 66 := Nat.lt_of_not_le (fun q9 => h6 ((nI_leI (a := 66) (b := k) (by omega) (by omega)).mpr q9))
          refine lv_aload_n hx hy dX6_restore_22 rfl (lv_at hl 1 rfl) ?_
          refine gX6_all F hI L_X6_7 dX6_restore_23 ?_
          refine lv_iload_n hx hy dX6_restore_26 rfl (lv_at hl 0 rfl) ?_
          refine lv_aload_n hx hy dX6_restore_27 rfl (lv_at hl 1 rfl) ?_
          refine gX6_snapshot F hI L_X6_19 dX6_restore_28 ?_
          refine lv_iload_n hx hy dX6_restore_31 rfl (lv_at hl 0 rfl) ?_
          refine aIlN F hI iX6_snapshot (i := k) (by omega) (by decide) dX6_restore_32 ?_
          refine tI (show _ = c 44 k from rfl) ?_
          refine aIsN F hI iX6_all (i := k) (by omega) (by decide) dX6_restore_33 (fun H locs hI => ?_)
          obtain ⟨c10, ec10⟩ : ∃ z9 : CF, z9 = up c 41 k (c 44 k) := ⟨_, rfl⟩
          have hI : Iv E s H locs (c10, u.2) := by rw [ec10]; exact hI
          refine lv_iinc (v := nI (k + 1)) (lv' := [(1, .int (nI (k + 1))), (0, .ref (eA E 48))]) hx hy dX6_restore_34 hl (k := 0) rfl (nI_add (k) 1) (by decide) rfl (fun ls hl => ?_)
          refine lv_goto (tgt := 16) hx hy dX6_restore_37 (by decide) ?_
          exact ih_16 (k + 1) c10 (by omega) (by omega) (hCp.step (Or.inl (by decide)) (by rw [ec10]; simp only [Nat.zero_add])) _ _ _ hI (lv_sub hl [0, 1] rfl)
    exact lp5 67 0 v4 (by omega) (by omega) (CpyR.start _ _ _ _ _) _ _ _ hI (lv_sub hl [0, 1] rfl)
  · have h1 : X.2.2.1.1 = 0 := (nI_eq (a := X.2.2.1.1) (b := 0) (by omega) (by omega)).mp h1
    refine zc F K_X6_85 dX6_restore_7 ?_
    exact rI hQ F (v := (u.1, u.2)) hI dX6_restore_9 (by rw [a_restore, if_pos h1]; exact ⟨rfl, hC, SameC.rf _⟩)
