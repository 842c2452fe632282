set_option maxHeartbeats 400000 in
set_option maxRecDepth 100000 in
theorem kX6_readsNumber (l : Launch) (E : EV) (u : SS) {z : Tx} {a : Nat} (hT : TxS u.1 z a) (lo mo : Nat) (hlo : lo ≤ 1) (h9 : 9 ≤ mo) (h256 : mo ≤ 256) : CT l yX6_readsNumber cX6_readsNumber 3 (some .boolean) (Rm 3 69) [.ref (eA E 48), .int (nI lo), .int (nI mo)] E u (Q_i E (fun r c => NumP z lo mo a u.1 r c) (fun (c : CF) => (c, u.2))) := by
  refine mstart RX6 (by decide +kernel) rfl (Nat.le_of_ble_eq_true rfl) ?_
  intro p e s m args below meth co ls Q hQ F hI hl
  have hx := F.1
  have hy := F.2.1
  have hl : lv_has ls 3 [(0, .ref (eA E 48)), (1, .int (nI lo)), (2, .int (nI mo))] := hl
  have ht80 := hT.2.1
  have haz := hT.2.2.2.2
  refine lv_aload_n hx hy dX6_readsNumber_0 rfl (lv_at hl 0 rfl) ?_
  refine lv_bipush (v := nI 32) hx hy dX6_readsNumber_1 (by decide) ?_
  refine zI hI (xV F hI hl (kX6_takes l E (u) hT (32) (by omega)) M_X6_157 (rX6 F hI) rfl ⟨Nat.le_of_ble_eq_true rfl, Nat.le_of_ble_eq_true rfl⟩ ⟨Nat.zero_le _, Nat.zero_le _⟩ rfl (Nat.le_of_ble_eq_true rfl) dX6_readsNumber_3) (fun r2 v3 H locs hI hp1 => ?_)
  by_cases hb4 : a < z.1 ∧ z.2 a = 32
  · rw [if_pos hb4] at hp1
    obtain ⟨rfl, hw5⟩ := hp1
    have hT6 : TxS v3 z (a + 1) := by rw [hw5]; exact hT.up3 (by omega)
    have hthT6 := hT6.2.2.2.2
    refine lv_if_eq (tgt := 38) hx hy dX6_readsNumber_6 (by decide) (fun q => absurd q (by decide)) (fun _ => ?_)
    refine lv_aload_n hx hy dX6_readsNumber_9 rfl (lv_at hl 0 rfl) ?_
    refine lv_bipush (v := nI 48) hx hy dX6_readsNumber_10 (by decide) ?_
    refine lv_iload_n hx hy dX6_readsNumber_12 rfl (lv_at hl 1 rfl) ?_
    refine lv_iadd hx hy dX6_readsNumber_13 ?_
    refine tI (nI_add (48) (lo)) ?_
    refine lv_bipush (v := nI 57) hx hy dX6_readsNumber_14 (by decide) ?_
    refine zI hI (xV F hI hl (kX6_isHere l E ((v3, u.2)) hT6 (48 + lo) (57) (by omega) (by omega)) M_X6_153 (rX6 F hI) rfl ⟨Nat.le_of_ble_eq_true rfl, Nat.le_of_ble_eq_true rfl⟩ ⟨Nat.zero_le _, Nat.zero_le _⟩ rfl (Nat.le_of_ble_eq_true rfl) dX6_readsNumber_16) (fun r8 v9 H locs hI hp7 => ?_)
    by_cases hb10 : a + 1 < z.1 ∧ 48 + lo ≤ z.2 (a + 1) ∧ z.2 (a + 1) ≤ 57
    · rw [if_pos hb10] at hp7
      subst hp7
      refine lv_if_eq (tgt := 38) hx hy dX6_readsNumber_19 (by decide) (fun q => absurd q (by decide)) (fun _ => ?_)
      refine lv_aload_n hx hy dX6_readsNumber_22 rfl (lv_at hl 0 rfl) ?_
      refine gX6_text F hI L_X6_35 dX6_readsNumber_23 ?_
      refine lv_aload_n hx hy dX6_readsNumber_26 rfl (lv_at hl 0 rfl) ?_
      refine gX6_spot F hI L_X6_147 dX6_readsNumber_27 ?_
      refine tI (show _ = v3 40 3 from rfl) ?_
      refine tI hT6.2.2.2.1 ?_
      refine aIlN F hI iX6_text (i := a + 1) (by omega) (by decide) dX6_readsNumber_30 ?_
      refine tI (show _ = v3 48 (a + 1) from rfl) ?_
      refine tI (hT6.1.2 (a + 1) (by omega)) ?_
      refine lv_bipush (v := nI 48) hx hy dX6_readsNumber_31 (by decide) ?_
      refine lv_isub hx hy dX6_readsNumber_33 ?_
      refine tI (pk_sub (a := z.2 (a + 1)) (b := 48) (by omega)) ?_
      refine lv_iload_n hx hy dX6_readsNumber_34 rfl (lv_at hl 2 rfl) ?_
      refine lv_icmp_le (tgt := 40) hx hy dX6_readsNumber_35 (by decide) (fun h11 => ?_) (fun h11 => ?_)
      · have h11 : (z.2 (a + 1)) - 48 ≤ mo := (nI_leI (a := (z.2 (a + 1)) - 48) (b := mo) (by omega) (by omega)).mp h11
        refine lv_aload_n hx hy dX6_readsNumber_40 rfl (lv_at hl 0 rfl) ?_
        have hD : bn z lo mo a = (some (dl z mo (z.1 - (a + 1 + 1)) (z.2 (a + 1) - 48) (a + 1 + 1)).1, (dl z mo (z.1 - (a + 1 + 1)) (z.2 (a + 1) - 48) (a + 1 + 1)).2) := by unfold bn; rw [if_pos hb4]; exact if_pos ⟨by omega, by omega, by omega⟩
        refine lv_aload_n hx hy dX6_readsNumber_41 rfl (lv_at hl 0 rfl) ?_
        refine gX6_text F hI L_X6_35 dX6_readsNumber_42 ?_
        refine lv_aload_n hx hy dX6_readsNumber_45 rfl (lv_at hl 0 rfl) ?_
        refine gX6_spot F hI L_X6_147 dX6_readsNumber_46 ?_
        refine tI (show _ = v3 40 3 from rfl) ?_
        refine tI hT6.2.2.2.1 ?_
        refine aIlN F hI iX6_text (i := a + 1) (by omega) (by decide) dX6_readsNumber_49 ?_
        refine tI (show _ = v3 48 (a + 1) from rfl) ?_
        refine tI (hT6.1.2 (a + 1) (by omega)) ?_
        refine lv_bipush (v := nI 48) hx hy dX6_readsNumber_50 (by decide) ?_
        refine lv_isub hx hy dX6_readsNumber_52 ?_
        refine tI (pk_sub (a := z.2 (a + 1)) (b := 48) (by omega)) ?_
        refine pX6_number F hI L_X6_160 dX6_readsNumber_53 (fun H locs hI => ?_)
        obtain ⟨c12, ec12⟩ : ∃ z9 : CF, z9 = up v3 40 5 (nI ((z.2 (a + 1)) - 48)) := ⟨_, rfl⟩
        have hI : Iv E s H locs (c12, u.2) := by rw [ec12]; exact hI
        have kf13 : c12 40 2 = nI z.1 := by rw [ec12, up_at, if_neg (by omega)]; exact hT6.1.1
        have kf14 : c12 40 3 = nI (a + 1) := by rw [ec12, up_at, if_neg (by omega)]; exact hT6.2.2.2.1
        have kf15 : c12 48 (a + 1) = nI (z.2 (a + 1)) := by rw [ec12, up_at, if_neg (by omega)]; exact (hT6.1.2 (a + 1) (by omega))
        refine lv_aload_n hx hy dX6_readsNumber_56 rfl (lv_at hl 0 rfl) ?_
        refine lv_dup hx hy dX6_readsNumber_57 rfl ?_
        refine gX6_spot F hI L_X6_147 dX6_readsNumber_58 ?_
        refine tI (show _ = c12 40 3 from rfl) ?_
        refine tI kf14 ?_
        refine lv_iconst (v := nI 1) hx hy dX6_readsNumber_61 (by decide) ?_
        refine lv_iadd hx hy dX6_readsNumber_62 ?_
        refine tI (nI_add (a + 1) (1)) ?_
        refine pX6_spot F hI L_X6_147 dX6_readsNumber_63 (fun H locs hI => ?_)
        obtain ⟨c16, ec16⟩ : ∃ z9 : CF, z9 = up c12 40 3 (nI (a + 1 + 1)) := ⟨_, rfl⟩
        have hI : Iv E s H locs (c16, u.2) := by rw [ec16]; exact hI
        have kf17 : c16 40 2 = nI z.1 := by rw [ec16, up_at, if_neg (by omega)]; exact kf13
        have kf18 : c16 48 (a + 1) = nI (z.2 (a + 1)) := by rw [ec16, up_at, if_neg (by omega)]; exact kf15
        have kf19 : c16 40 5 = nI ((z.2 (a + 1)) - 48) := by rw [ec16, up_at, if_neg (by omega)]; exact (show c12 40 5 = nI ((z.2 (a + 1)) - 48) by rw [ec12]; exact up_s _ _ _ _)
        have lp20 : ∀ (fu : Nat) (v b : Nat) (c : CF), (v ≤ mo) → (b ≤ z.1) → (z.1 - b < fu) → (∀ q i, ¬ (q = 40 ∧ (i = 3 ∨ i = 5)) → c q i = u.1 q i) → (c 40 3 = nI b) → (c 40 5 = nI v) → (dl z mo (z.1 - (a + 1 + 1)) (z.2 (a + 1) - 48) (a + 1 + 1) = dl z mo (z.1 - b) v b) →  ∀ (H : Heap) (locs : List Loc) (ls : Array Slot), Iv E s H locs ((c, u.2)) → lv_has ls 3 [(0, .ref (eA E 48)), (1, .int (nI lo)), (2, .int (nI mo))] → W p l e (Rm 3 69) s m args below meth co H locs 0 0 Q (F0 m 66 ls []) := by
          intro fu
          induction fu with
          | zero => intro v b c hv hb hf hO h3 h5 hM; exact absurd hf (Nat.not_lt_zero _)
          | succ fu ih =>
            intro v b c hv hb hf hO h3 h5 hM H locs ls hI hl
            have hTc : TxS c z b := ⟨hT.1.keep (hO _ _ (by omega)) (fun i => hO _ _ (by omega)), hT.2.1, hT.2.2.1, h3, hb⟩
            have ih_66 := ih
            refine lv_aload_n hx hy dX6_readsNumber_66 rfl (lv_at hl 0 rfl) ?_
            refine gX6_number F hI L_X6_160 dX6_readsNumber_67 ?_
            refine tI (show _ = c 40 5 from rfl) ?_
            refine tI h5 ?_
            refine lv_if_le (tgt := 145) hx hy dX6_readsNumber_70 (by decide) (fun h21 => ?_) (fun h21 => ?_)
            · have h21 : v ≤ 0 := (nI_leI (a := v) (b := 0) (by omega) (by omega)).mp h21
              refine lv_iconst (v := nI 1) hx hy dX6_readsNumber_145 (by decide) ?_
              exact rZ hQ F (v := c) rfl hI dX6_readsNumber_146 (by have e9 := hD; rw [hM, dl_stop _ (by omega)] at e9; rw [NumP, e9]; exact ⟨hO, h3, Or.inr ⟨v, rfl, rfl, h5⟩⟩)
            · have h21 : 0 < v := Nat.lt_of_not_le (fun q9 => h21 ((nI_leI (a := v) (b := 0) (by omega) (by omega)).mpr q9))
              refine lv_aload_n hx hy dX6_readsNumber_73 rfl (lv_at hl 0 rfl) ?_
              refine lv_bipush (v := nI 48) hx hy dX6_readsNumber_74 (by decide) ?_
              refine lv_bipush (v := nI 57) hx hy dX6_readsNumber_76 (by decide) ?_
              refine zI hI (xV F hI hl (kX6_isHere l E ((c, u.2)) hTc (48) (57) (by omega) (by omega)) M_X6_153 (rX6 F hI) rfl ⟨Nat.le_of_ble_eq_true rfl, Nat.le_of_ble_eq_true rfl⟩ ⟨Nat.zero_le _, Nat.zero_le _⟩ rfl (Nat.le_of_ble_eq_true rfl) dX6_readsNumber_78) (fun r23 v24 H locs hI hp22 => ?_)
              by_cases hb25 : b < z.1 ∧ 48 ≤ z.2 b ∧ z.2 b ≤ 57
              · rw [if_pos hb25] at hp22
                subst hp22
                refine lv_if_eq (tgt := 145) hx hy dX6_readsNumber_81 (by decide) (fun q => absurd q (by decide)) (fun _ => ?_)
                refine lv_bipush (v := nI 10) hx hy dX6_readsNumber_84 (by decide) ?_
                refine lv_aload_n hx hy dX6_readsNumber_86 rfl (lv_at hl 0 rfl) ?_
                refine gX6_number F hI L_X6_160 dX6_readsNumber_87 ?_
                refine tI (show _ = c 40 5 from rfl) ?_
                refine tI h5 ?_
                refine lv_imul hx hy dX6_readsNumber_90 ?_
                refine tI (pk_mul (10) (v)) ?_
                refine lv_aload_n hx hy dX6_readsNumber_91 rfl (lv_at hl 0 rfl) ?_
                refine gX6_text F hI L_X6_35 dX6_readsNumber_92 ?_
                refine lv_aload_n hx hy dX6_readsNumber_95 rfl (lv_at hl 0 rfl) ?_
                refine gX6_spot F hI L_X6_147 dX6_readsNumber_96 ?_
                refine tI (show _ = c 40 3 from rfl) ?_
                refine tI hTc.2.2.2.1 ?_
                refine aIlN F hI iX6_text (i := b) (by omega) (by decide) dX6_readsNumber_99 ?_
                refine tI (show _ = c 48 b from rfl) ?_
                refine tI (hTc.1.2 b (by omega)) ?_
                refine lv_iadd hx hy dX6_readsNumber_100 ?_
                refine tI (nI_add (10 * v) (z.2 b)) ?_
                refine lv_bipush (v := nI 48) hx hy dX6_readsNumber_101 (by decide) ?_
                refine lv_isub hx hy dX6_readsNumber_103 ?_
                refine tI (pk_sub (a := 10 * v + (z.2 b)) (b := 48) (by omega)) ?_
                refine lv_iload_n hx hy dX6_readsNumber_104 rfl (lv_at hl 2 rfl) ?_
                refine lv_icmp_gt (tgt := 145) hx hy dX6_readsNumber_105 (by decide) (fun h26 => ?_) (fun h26 => ?_)
                · have h26 : mo < (10 * v + (z.2 b)) - 48 := (nI_ltI (a := mo) (b := (10 * v + (z.2 b)) - 48) (by omega) (by omega)).mp h26
                  refine lv_iconst (v := nI 1) hx hy dX6_readsNumber_145 (by decide) ?_
                  exact rZ hQ F (v := c) rfl hI dX6_readsNumber_146 (by have e9 := hD; rw [hM, dl_stop _ (by omega)] at e9; rw [NumP, e9]; exact ⟨hO, h3, Or.inr ⟨v, rfl, rfl, h5⟩⟩)
                · have h26 : (10 * v + (z.2 b)) - 48 ≤ mo := Nat.le_of_not_lt (fun q9 => h26 ((nI_ltI (a := mo) (b := (10 * v + (z.2 b)) - 48) (by omega) (by omega)).mpr q9))
                  refine lv_aload_n hx hy dX6_readsNumber_108 rfl (lv_at hl 0 rfl) ?_
                  refine lv_bipush (v := nI 10) hx hy dX6_readsNumber_109 (by decide) ?_
                  refine lv_aload_n hx hy dX6_readsNumber_111 rfl (lv_at hl 0 rfl) ?_
                  refine gX6_number F hI L_X6_160 dX6_readsNumber_112 ?_
                  refine tI (show _ = c 40 5 from rfl) ?_
                  refine tI h5 ?_
                  refine lv_imul hx hy dX6_readsNumber_115 ?_
                  refine tI (pk_mul (10) (v)) ?_
                  refine lv_aload_n hx hy dX6_readsNumber_116 rfl (lv_at hl 0 rfl) ?_
                  refine gX6_text F hI L_X6_35 dX6_readsNumber_117 ?_
                  refine lv_aload_n hx hy dX6_readsNumber_120 rfl (lv_at hl 0 rfl) ?_
                  refine gX6_spot F hI L_X6_147 dX6_readsNumber_121 ?_
                  refine tI (show _ = c 40 3 from rfl) ?_
                  refine tI hTc.2.2.2.1 ?_
                  refine aIlN F hI iX6_text (i := b) (by omega) (by decide) dX6_readsNumber_124 ?_
                  refine tI (show _ = c 48 b from rfl) ?_
                  refine tI (hTc.1.2 b (by omega)) ?_
                  refine lv_iadd hx hy dX6_readsNumber_125 ?_
                  refine tI (nI_add (10 * v) (z.2 b)) ?_
                  refine lv_bipush (v := nI 48) hx hy dX6_readsNumber_126 (by decide) ?_
                  refine lv_isub hx hy dX6_readsNumber_128 ?_
                  refine tI (pk_sub (a := 10 * v + (z.2 b)) (b := 48) (by omega)) ?_
                  refine pX6_number F hI L_X6_160 dX6_readsNumber_129 (fun H locs hI => ?_)
                  obtain ⟨c27, ec27⟩ : ∃ z9 : CF, z9 = up c 40 5 (nI ((10 * v + (z.2 b)) - 48)) := ⟨_, rfl⟩
                  have hI : Iv E s H locs (c27, u.2) := by rw [ec27]; exact hI
                  have kf28 : c27 40 2 = nI z.1 := by rw [ec27, up_at, if_neg (by omega)]; exact hTc.1.1
                  have kf29 : c27 40 3 = nI (b) := by rw [ec27, up_at, if_neg (by omega)]; exact hTc.2.2.2.1
                  have kf30 : c27 48 (b) = nI (z.2 b) := by rw [ec27, up_at, if_neg (by omega)]; exact (hTc.1.2 b (by omega))
                  have kf31 : c27 48 b = nI (z.2 b) := by rw [ec27, up_at, if_neg (by omega)]; exact (hTc.1.2 b (by omega))
                  refine lv_aload_n hx hy dX6_readsNumber_132 rfl (lv_at hl 0 rfl) ?_
                  refine lv_dup hx hy dX6_readsNumber_133 rfl ?_
                  refine gX6_spot F hI L_X6_147 dX6_readsNumber_134 ?_
                  refine tI (show _ = c27 40 3 from rfl) ?_
                  refine tI kf29 ?_
                  refine lv_iconst (v := nI 1) hx hy dX6_readsNumber_137 (by decide) ?_
                  refine lv_iadd hx hy dX6_readsNumber_138 ?_
                  refine tI (nI_add (b) (1)) ?_
                  refine pX6_spot F hI L_X6_147 dX6_readsNumber_139 (fun H locs hI => ?_)
                  obtain ⟨c32, ec32⟩ : ∃ z9 : CF, z9 = up c27 40 3 (nI (b + 1)) := ⟨_, rfl⟩
                  have hI : Iv E s H locs (c32, u.2) := by rw [ec32]; exact hI
                  have kf33 : c32 40 2 = nI z.1 := by rw [ec32, up_at, if_neg (by omega)]; exact kf28
                  have kf34 : c32 48 (b) = nI (z.2 b) := by rw [ec32, up_at, if_neg (by omega)]; exact kf30
                  have kf35 : c32 48 b = nI (z.2 b) := by rw [ec32, up_at, if_neg (by omega)]; exact kf31
                  have kf36 : c32 40 5 = nI ((10 * v + (z.2 b)) - 48) := by rw [ec32, up_at, if_neg (by omega)]; exact (show c27 40 5 = nI ((10 * v + (z.2 b)) - 48) by rw [ec27]; exact up_s _ _ _ _)
                  refine lv_goto (tgt := 66) hx hy dX6_readsNumber_142 (by decide) ?_
                  exact ih_66 (10 * v + z.2 b - 48) (b + 1) c32 (by omega) (by omega) (by omega) (fun q i h9 => by rw [ec32, up_at, if_neg (by omega), ec27, up_at, if_neg (by omega)]; exact hO q i h9) (by rw [ec32]; exact up_s _ _ _ _) (by rw [ec32, up_at, if_neg (by omega), ec27]; exact up_s _ _ _ _) (hM.trans ((dl_step (by omega)).trans (by rw [show v * 10 + (z.2 b - 48) = 10 * v + z.2 b - 48 from by omega]))) _ _ _ hI (lv_sub hl [0, 1, 2] rfl)
              · rw [if_neg hb25] at hp22
                subst hp22
                refine lv_if_eq (tgt := 145) hx hy dX6_readsNumber_81 (by decide) (fun _ => ?_) (fun q => absurd q (by decide))
                refine lv_iconst (v := nI 1) hx hy dX6_readsNumber_145 (by decide) ?_
                exact rZ hQ F (v := c) rfl hI dX6_readsNumber_146 (by have e9 := hD; rw [hM, dl_stop _ (by omega)] at e9; rw [NumP, e9]; exact ⟨hO, h3, Or.inr ⟨v, rfl, rfl, h5⟩⟩)
        exact lp20 (z.1 + 1) (z.2 (a + 1) - 48) (a + 1 + 1) c16 (by omega) (by omega) (by omega) (fun q i h9 => by rw [ec16, up_at, if_neg (by omega), ec12, up_at, if_neg (by omega), hw5, up_at, if_neg (by omega)]) (by rw [ec16]; exact up_s _ _ _ _) (by rw [ec16, up_at, if_neg (by omega), ec12]; exact up_s _ _ _ _) rfl _ _ _ hI (lv_sub hl [0, 1, 2] rfl)
      · have h11 : mo < (z.2 (a + 1)) - 48 := Nat.lt_of_not_le (fun q9 => h11 ((nI_leI (a := (z.2 (a + 1)) - 48) (b := mo) (by omega) (by omega)).mpr q9))
        exact absurd h11 (by omega)
    · rw [if_neg hb10] at hp7
      subst hp7
      refine lv_if_eq (tgt := 38) hx hy dX6_readsNumber_19 (by decide) (fun _ => ?_) (fun q => absurd q (by decide))
      refine lv_iconst (v := nI 0) hx hy dX6_readsNumber_38 (by decide) ?_
      exact rZ hQ F (v := v3) rfl hI dX6_readsNumber_39 (by have e9 : bn z lo mo a = (none, a + 1) := (by unfold bn; rw [if_pos hb4]; exact if_neg (by omega)); rw [NumP, e9]; exact ⟨fun q i h9 => by rw [hw5, up_at, if_neg (by omega)], hT6.2.2.2.1, Or.inl ⟨rfl, rfl⟩⟩)
  · rw [if_neg hb4] at hp1
    obtain ⟨rfl, hw37⟩ := hp1
    have hI : Iv E s H locs (u.1, u.2) := by rw [hw37] at hI; exact hI
    refine lv_if_eq (tgt := 38) hx hy dX6_readsNumber_6 (by decide) (fun _ => ?_) (fun q => absurd q (by decide))
    refine lv_iconst (v := nI 0) hx hy dX6_readsNumber_38 (by decide) ?_
    exact rZ hQ F (v := u.1) rfl hI dX6_readsNumber_39 (by have e9 : bn z lo mo a = (none, a) := if_neg hb4; rw [NumP, e9]; exact ⟨fun _ _ _ => rfl, hT.2.2.2.1, Or.inl ⟨rfl, rfl⟩⟩)
set_option maxHeartbeats 400000 in
set_option maxRecDepth 100000 in
theorem kX6_readsPart (l : Launch) (E : EV) (u : SS) {z : Tx} {a : Nat} (hT : TxS u.1 z a) {mm : Nat} (hm : u.1 40 4 = nI mm) (hm14 : mm ≤ 14) (k w_ : Nat) (hk : k < 7) (hw4 : w_ < 4) (hw1 : 1 ≤ w_) (hwn : w_ ≤ npK k) : CT l yX6_readsPart cX6_readsPart 6 (some .boolean) (Rm 4 91) [.ref (eA E 48), .int (nI k), .int (nI w_)] E u (Q_i E (fun r c => PartP z k w_ mm a u.1 r c) (fun (c : CF) => (c, u.2))) := by
  refine mstart RX6 (by decide +kernel) rfl (Nat.le_of_ble_eq_true rfl) ?_
  intro p e s m args below meth co ls Q hQ F hI hl
  have hx := F.1
  have hy := F.2.1
  have hl : lv_has ls 6 [(0, .ref (eA E 48)), (1, .int (nI k)), (2, .int (nI w_))] := hl
  have ht80 := hT.2.1
  have haz := hT.2.2.2.2
  refine lv_iload_n hx hy dX6_readsPart_0 rfl (lv_at hl 1 rfl) ?_
  refine lv_bipush (v := nI 6) hx hy dX6_readsPart_1 (by decide) ?_
  refine lv_icmp_ne (tgt := 15) hx hy dX6_readsPart_3 (by decide) (fun h1 => ?_) (fun h1 => ?_)
  · have h1 : k ≠ 6 := fun q9 => h1 ((nI_eq (a := k) (b := 6) (by omega) (by omega)).mpr q9)
    refine lv_iconst (v := nI 0) hx hy dX6_readsPart_15 (by decide) ?_
    refine lv_istore_n (lv' := [(3, .int (nI 0)), (0, .ref (eA E 48)), (1, .int (nI k)), (2, .int (nI w_))]) hx hy dX6_readsPart_16 rfl hl (by decide) rfl (fun ls hl => ?_)
    refine lv_iload_n hx hy dX6_readsPart_17 rfl (lv_at hl 2 rfl) ?_
    refine lv_if_ne (tgt := 30) hx hy dX6_readsPart_18 (by decide) (fun h2 => ?_) (fun h2 => ?_)
    · have h2 : k ≠ 0 := fun q9 => h2 ((nI_eq (a := k) (b := 0) (by omega) (by omega)).mpr q9)
      refine lv_iconst (v := nI 0) hx hy dX6_readsPart_30 (by decide) ?_
      refine lv_istore (lv' := [(4, .int (nI 0)), (3, .int (nI 0)), (0, .ref (eA E 48)), (1, .int (nI k)), (2, .int (nI w_))]) hx hy dX6_readsPart_31 hl (by decide) rfl (fun ls hl => ?_)
      refine lv_aload_n hx hy dX6_readsPart_33 rfl (lv_at hl 2 rfl) ?_
      refine lv_iload_n hx hy dX6_readsPart_34 rfl (lv_at hl 1 rfl) ?_
      refine lv_if_ne (tgt := 43) hx hy dX6_readsPart_35 (by decide) (fun q => absurd q (by decide)) (fun _ => ?_)
      refine lv_iload hx hy dX6_readsPart_38 (lv_at hl 0 rfl) ?_
      refine lv_if_eq (tgt := 47) hx hy dX6_readsPart_40 (by decide) (fun _ => ?_) (fun q => absurd q (by decide))
      refine lv_iconst (v := nI 0) hx hy dX6_readsPart_47 (by decide) ?_
      refine lv_iload_n hx hy dX6_readsPart_48 rfl (lv_at hl 1 rfl) ?_
      refine lv_if_eq (tgt := 57) hx hy dX6_readsPart_49 (by decide) (fun _ => ?_) (fun q => absurd q (by decide))
      refine lv_iload hx hy dX6_readsPart_57 (lv_at hl 0 rfl) ?_
      refine lv_if_eq (tgt := 68) hx hy dX6_readsPart_59 (by decide) (fun _ => ?_) (fun q => absurd q (by decide))
      refine lv_iload_n hx hy dX6_readsPart_68 rfl (lv_at hl 3 rfl) ?_
      refine lv_if_ne (tgt := 78) hx hy dX6_readsPart_69 (by decide) (fun h3 => ?_) (fun h3 => ?_)
      · have h3 : k ≠ 0 := fun q9 => h3 ((nI_eq (a := k) (b := 0) (by omega) (by omega)).mpr q9)
        refine lv_bipush (v := nI 15) hx hy dX6_readsPart_78 (by decide) ?_
        refine zI hI (xV F hI hl (kX6_readsNumber l E (u) hT 0 15 (by decide) (by decide) (by decide)) M_X6_163 (rX6 F hI) rfl ⟨Nat.le_of_ble_eq_true rfl, Nat.le_of_ble_eq_true rfl⟩ ⟨Nat.zero_le _, Nat.zero_le _⟩ rfl (Nat.le_of_ble_eq_true rfl) dX6_readsPart_80) (fun r5 v6 H locs hI hp4 => ?_)
        have hq9 : loK k w_ = 0 ∧ hiK k w_ = 15 := by
          have h9 := lo_hiM k hk w_ hw4 hw1 hwn
          rw [← h9.1, ← h9.2]
          unfold loM hiM
          constructor <;> (repeat' split) <;> omega
        have hnp : NumP z (loK k w_) (hiK k w_) a u.1 r5 v6 := by rw [hq9.1, hq9.2]; exact hp4
        rcases hnp.2.2 with ⟨hn9, hr9⟩ | ⟨nv, hn9, hr9, h59⟩
        · subst hr9
          refine tI (show _ = nI 0 from rfl) ?_
          refine lv_istore (lv' := [(5, .int (nI 0)), (4, .int (nI 0)), (3, .int (nI 0)), (0, .ref (eA E 48)), (1, .int (nI k)), (2, .int (nI w_))]) hx hy dX6_readsPart_83 hl (by decide) rfl (fun ls hl => ?_)
          refine lv_aload_n hx hy dX6_readsPart_85 rfl (lv_at hl 3 rfl) ?_
          refine gX6_read F hI L_X6_38 dX6_readsPart_86 ?_
          refine lv_iconst (v := nI 4) hx hy dX6_readsPart_89 (by decide) ?_
          refine lv_aload_n hx hy dX6_readsPart_90 rfl (lv_at hl 3 rfl) ?_
          refine gX6_readMany F hI L_X6_166 dX6_readsPart_91 ?_
          refine tI (show _ = v6 40 4 from rfl) ?_
          refine tI ((hnp.1 _ _ (by omega)).trans hm) ?_
          refine lv_imul hx hy dX6_readsPart_94 ?_
          refine tI (pk_mul (4) (mm)) ?_
          refine lv_iload_n hx hy dX6_readsPart_95 rfl (lv_at hl 5 rfl) ?_
          refine lv_iadd hx hy dX6_readsPart_96 ?_
          refine tI (nI_add (4 * mm) (w_)) ?_
          refine lv_aload_n hx hy dX6_readsPart_97 rfl (lv_at hl 3 rfl) ?_
          refine gX6_number F hI L_X6_160 dX6_readsPart_98 ?_
          refine tI (show _ = v6 40 5 from rfl) ?_
          refine aIsN F hI iX6_read (i := 4 * mm + w_) (by omega) (by decide) dX6_readsPart_101 (fun H locs hI => ?_)
          obtain ⟨c7, ec7⟩ : ∃ z9 : CF, z9 = up v6 49 (4 * mm + w_) (v6 40 5) := ⟨_, rfl⟩
          have hI : Iv E s H locs (c7, u.2) := by rw [ec7]; exact hI
          have kf8 : c7 40 4 = nI mm := by rw [ec7, up_at, if_neg (by omega)]; exact ((hnp.1 _ _ (by omega)).trans hm)
          refine lv_iload hx hy dX6_readsPart_102 (lv_at hl 0 rfl) ?_
          exact rZ hQ F (v := c7) rfl hI dX6_readsPart_104 (hnp.part0 hn9 ec7)
        · subst hr9
          refine tI (show _ = nI 1 from rfl) ?_
          refine lv_istore (lv' := [(5, .int (nI 1)), (4, .int (nI 0)), (3, .int (nI 0)), (0, .ref (eA E 48)), (1, .int (nI k)), (2, .int (nI w_))]) hx hy dX6_readsPart_83 hl (by decide) rfl (fun ls hl => ?_)
          refine lv_aload_n hx hy dX6_readsPart_85 rfl (lv_at hl 3 rfl) ?_
          refine gX6_read F hI L_X6_38 dX6_readsPart_86 ?_
          refine lv_iconst (v := nI 4) hx hy dX6_readsPart_89 (by decide) ?_
          refine lv_aload_n hx hy dX6_readsPart_90 rfl (lv_at hl 3 rfl) ?_
          refine gX6_readMany F hI L_X6_166 dX6_readsPart_91 ?_
          refine tI (show _ = v6 40 4 from rfl) ?_
          refine tI ((hnp.1 _ _ (by omega)).trans hm) ?_
          refine lv_imul hx hy dX6_readsPart_94 ?_
          refine tI (pk_mul (4) (mm)) ?_
          refine lv_iload_n hx hy dX6_readsPart_95 rfl (lv_at hl 5 rfl) ?_
          refine lv_iadd hx hy dX6_readsPart_96 ?_
          refine tI (nI_add (4 * mm) (w_)) ?_
          refine lv_aload_n hx hy dX6_readsPart_97 rfl (lv_at hl 3 rfl) ?_
          refine gX6_number F hI L_X6_160 dX6_readsPart_98 ?_
          refine tI (show _ = v6 40 5 from rfl) ?_
          refine tI h59 ?_
          refine aIsN F hI iX6_read (i := 4 * mm + w_) (by omega) (by decide) dX6_readsPart_101 (fun H locs hI => ?_)
          obtain ⟨c9, ec9⟩ : ∃ z9 : CF, z9 = up v6 49 (4 * mm + w_) (nI nv) := ⟨_, rfl⟩
          have hI : Iv E s H locs (c9, u.2) := by rw [ec9]; exact hI
          have kf10 : c9 40 4 = nI mm := by rw [ec9, up_at, if_neg (by omega)]; exact ((hnp.1 _ _ (by omega)).trans hm)
          have kf11 : c9 40 5 = nI nv := by rw [ec9, up_at, if_neg (by omega)]; exact h59
          refine lv_iload hx hy dX6_readsPart_102 (lv_at hl 0 rfl) ?_
          exact rZ hQ F (v := c9) rfl hI dX6_readsPart_104 (hnp.part1 hn9 ec9)
      · have h3 : k = 0 := (nI_eq (a := k) (b := 0) (by omega) (by omega)).mp h3
        refine lv_sipush (v := nI 256) hx hy dX6_readsPart_72 (by decide) ?_
        refine lv_goto (tgt := 80) hx hy dX6_readsPart_75 (by decide) ?_
        refine zI hI (xV F hI hl (kX6_readsNumber l E (u) hT 0 256 (by decide) (by decide) (by decide)) M_X6_163 (rX6 F hI) rfl ⟨Nat.le_of_ble_eq_true rfl, Nat.le_of_ble_eq_true rfl⟩ ⟨Nat.zero_le _, Nat.zero_le _⟩ rfl (Nat.le_of_ble_eq_true rfl) dX6_readsPart_80) (fun r13 v14 H locs hI hp12 => ?_)
        have hq9 : loK k w_ = 0 ∧ hiK k w_ = 256 := by
          have h9 := lo_hiM k hk w_ hw4 hw1 hwn
          rw [← h9.1, ← h9.2]
          unfold loM hiM
          constructor <;> (repeat' split) <;> omega
        have hnp : NumP z (loK k w_) (hiK k w_) a u.1 r13 v14 := by rw [hq9.1, hq9.2]; exact hp12
        rcases hnp.2.2 with ⟨hn9, hr9⟩ | ⟨nv, hn9, hr9, h59⟩
        · subst hr9
          refine tI (show _ = nI 0 from rfl) ?_
          refine lv_istore (lv' := [(5, .int (nI 0)), (4, .int (nI 0)), (3, .int (nI 0)), (0, .ref (eA E 48)), (1, .int (nI k)), (2, .int (nI w_))]) hx hy dX6_readsPart_83 hl (by decide) rfl (fun ls hl => ?_)
          refine lv_aload_n hx hy dX6_readsPart_85 rfl (lv_at hl 3 rfl) ?_
          refine gX6_read F hI L_X6_38 dX6_readsPart_86 ?_
          refine lv_iconst (v := nI 4) hx hy dX6_readsPart_89 (by decide) ?_
          refine lv_aload_n hx hy dX6_readsPart_90 rfl (lv_at hl 3 rfl) ?_
          refine gX6_readMany F hI L_X6_166 dX6_readsPart_91 ?_
          refine tI (show _ = v14 40 4 from rfl) ?_
          refine tI ((hnp.1 _ _ (by omega)).trans hm) ?_
          refine lv_imul hx hy dX6_readsPart_94 ?_
          refine tI (pk_mul (4) (mm)) ?_
          refine lv_iload_n hx hy dX6_readsPart_95 rfl (lv_at hl 5 rfl) ?_
          refine lv_iadd hx hy dX6_readsPart_96 ?_
          refine tI (nI_add (4 * mm) (w_)) ?_
          refine lv_aload_n hx hy dX6_readsPart_97 rfl (lv_at hl 3 rfl) ?_
          refine gX6_number F hI L_X6_160 dX6_readsPart_98 ?_
          refine tI (show _ = v14 40 5 from rfl) ?_
          refine aIsN F hI iX6_read (i := 4 * mm + w_) (by omega) (by decide) dX6_readsPart_101 (fun H locs hI => ?_)
          obtain ⟨c15, ec15⟩ : ∃ z9 : CF, z9 = up v14 49 (4 * mm + w_) (v14 40 5) := ⟨_, rfl⟩
          have hI : Iv E s H locs (c15, u.2) := by rw [ec15]; exact hI
          have kf16 : c15 40 4 = nI mm := by rw [ec15, up_at, if_neg (by omega)]; exact ((hnp.1 _ _ (by omega)).trans hm)
          refine lv_iload hx hy dX6_readsPart_102 (lv_at hl 0 rfl) ?_
          exact rZ hQ F (v := c15) rfl hI dX6_readsPart_104 (hnp.part0 hn9 ec15)
        · subst hr9
          refine tI (show _ = nI 1 from rfl) ?_
          refine lv_istore (lv' := [(5, .int (nI 1)), (4, .int (nI 0)), (3, .int (nI 0)), (0, .ref (eA E 48)), (1, .int (nI k)), (2, .int (nI w_))]) hx hy dX6_readsPart_83 hl (by decide) rfl (fun ls hl => ?_)
          refine lv_aload_n hx hy dX6_readsPart_85 rfl (lv_at hl 3 rfl) ?_
          refine gX6_read F hI L_X6_38 dX6_readsPart_86 ?_
          refine lv_iconst (v := nI 4) hx hy dX6_readsPart_89 (by decide) ?_
          refine lv_aload_n hx hy dX6_readsPart_90 rfl (lv_at hl 3 rfl) ?_
          refine gX6_readMany F hI L_X6_166 dX6_readsPart_91 ?_
          refine tI (show _ = v14 40 4 from rfl) ?_
          refine tI ((hnp.1 _ _ (by omega)).trans hm) ?_
          refine lv_imul hx hy dX6_readsPart_94 ?_
          refine tI (pk_mul (4) (mm)) ?_
          refine lv_iload_n hx hy dX6_readsPart_95 rfl (lv_at hl 5 rfl) ?_
          refine lv_iadd hx hy dX6_readsPart_96 ?_
          refine tI (nI_add (4 * mm) (w_)) ?_
          refine lv_aload_n hx hy dX6_readsPart_97 rfl (lv_at hl 3 rfl) ?_
          refine gX6_number F hI L_X6_160 dX6_readsPart_98 ?_
          refine tI (show _ = v14 40 5 from rfl) ?_
          refine tI h59 ?_
          refine aIsN F hI iX6_read (i := 4 * mm + w_) (by omega) (by decide) dX6_readsPart_101 (fun H locs hI => ?_)
          obtain ⟨c17, ec17⟩ : ∃ z9 : CF, z9 = up v14 49 (4 * mm + w_) (nI nv) := ⟨_, rfl⟩
          have hI : Iv E s H locs (c17, u.2) := by rw [ec17]; exact hI
          have kf18 : c17 40 4 = nI mm := by rw [ec17, up_at, if_neg (by omega)]; exact ((hnp.1 _ _ (by omega)).trans hm)
          have kf19 : c17 40 5 = nI nv := by rw [ec17, up_at, if_neg (by omega)]; exact h59
          refine lv_iload hx hy dX6_readsPart_102 (lv_at hl 0 rfl) ?_
          exact rZ hQ F (v := c17) rfl hI dX6_readsPart_104 (hnp.part1 hn9 ec17)
    · have h2 : k = 0 := (nI_eq (a := k) (b := 0) (by omega) (by omega)).mp h2
      refine lv_iload_n hx hy dX6_readsPart_21 rfl (lv_at hl 3 rfl) ?_
      refine lv_iconst (v := nI 2) hx hy dX6_readsPart_22 (by decide) ?_
      refine lv_icmp_ne (tgt := 30) hx hy dX6_readsPart_23 (by decide) (fun h20 => ?_) (fun h20 => ?_)
      · have h20 : w_ ≠ 2 := fun q9 => h20 ((nI_eq (a := w_) (b := 2) (by omega) (by omega)).mpr q9)
        refine lv_iconst (v := nI 0) hx hy dX6_readsPart_30 (by decide) ?_
        refine lv_istore (lv' := [(4, .int (nI 0)), (3, .int (nI 0)), (0, .ref (eA E 48)), (1, .int (nI k)), (2, .int (nI w_))]) hx hy dX6_readsPart_31 hl (by decide) rfl (fun ls hl => ?_)
        refine lv_aload_n hx hy dX6_readsPart_33 rfl (lv_at hl 2 rfl) ?_
        refine lv_iload_n hx hy dX6_readsPart_34 rfl (lv_at hl 1 rfl) ?_
        refine lv_if_ne (tgt := 43) hx hy dX6_readsPart_35 (by decide) (fun q => absurd q (by decide)) (fun _ => ?_)
        refine lv_iload hx hy dX6_readsPart_38 (lv_at hl 0 rfl) ?_
        refine lv_if_eq (tgt := 47) hx hy dX6_readsPart_40 (by decide) (fun _ => ?_) (fun q => absurd q (by decide))
        refine lv_iconst (v := nI 0) hx hy dX6_readsPart_47 (by decide) ?_
        refine lv_iload_n hx hy dX6_readsPart_48 rfl (lv_at hl 1 rfl) ?_
        refine lv_if_eq (tgt := 57) hx hy dX6_readsPart_49 (by decide) (fun _ => ?_) (fun q => absurd q (by decide))
        refine lv_iload hx hy dX6_readsPart_57 (lv_at hl 0 rfl) ?_
        refine lv_if_eq (tgt := 68) hx hy dX6_readsPart_59 (by decide) (fun _ => ?_) (fun q => absurd q (by decide))
        refine lv_iload_n hx hy dX6_readsPart_68 rfl (lv_at hl 3 rfl) ?_
        refine lv_if_ne (tgt := 78) hx hy dX6_readsPart_69 (by decide) (fun h21 => ?_) (fun h21 => ?_)
        · have h21 : k ≠ 0 := fun q9 => h21 ((nI_eq (a := k) (b := 0) (by omega) (by omega)).mpr q9)
          refine lv_bipush (v := nI 15) hx hy dX6_readsPart_78 (by decide) ?_
          refine zI hI (xV F hI hl (kX6_readsNumber l E (u) hT 0 15 (by decide) (by decide) (by decide)) M_X6_163 (rX6 F hI) rfl ⟨Nat.le_of_ble_eq_true rfl, Nat.le_of_ble_eq_true rfl⟩ ⟨Nat.zero_le _, Nat.zero_le _⟩ rfl (Nat.le_of_ble_eq_true rfl) dX6_readsPart_80) (fun r23 v24 H locs hI hp22 => ?_)
          have hq9 : loK k w_ = 0 ∧ hiK k w_ = 15 := by
            have h9 := lo_hiM k hk w_ hw4 hw1 hwn
            rw [← h9.1, ← h9.2]
            unfold loM hiM
            constructor <;> (repeat' split) <;> omega
          have hnp : NumP z (loK k w_) (hiK k w_) a u.1 r23 v24 := by rw [hq9.1, hq9.2]; exact hp22
          rcases hnp.2.2 with ⟨hn9, hr9⟩ | ⟨nv, hn9, hr9, h59⟩
          · subst hr9
            refine tI (show _ = nI 0 from rfl) ?_
            refine lv_istore (lv' := [(5, .int (nI 0)), (4, .int (nI 0)), (3, .int (nI 0)), (0, .ref (eA E 48)), (1, .int (nI k)), (2, .int (nI w_))]) hx hy dX6_readsPart_83 hl (by decide) rfl (fun ls hl => ?_)
            refine lv_aload_n hx hy dX6_readsPart_85 rfl (lv_at hl 3 rfl) ?_
            refine gX6_read F hI L_X6_38 dX6_readsPart_86 ?_
            refine lv_iconst (v := nI 4) hx hy dX6_readsPart_89 (by decide) ?_
            refine lv_aload_n hx hy dX6_readsPart_90 rfl (lv_at hl 3 rfl) ?_
            refine gX6_readMany F hI L_X6_166 dX6_readsPart_91 ?_
            refine tI (show _ = v24 40 4 from rfl) ?_
            refine tI ((hnp.1 _ _ (by omega)).trans hm) ?_
            refine lv_imul hx hy dX6_readsPart_94 ?_
            refine tI (pk_mul (4) (mm)) ?_
            refine lv_iload_n hx hy dX6_readsPart_95 rfl (lv_at hl 5 rfl) ?_
            refine lv_iadd hx hy dX6_readsPart_96 ?_
            refine tI (nI_add (4 * mm) (w_)) ?_
            refine lv_aload_n hx hy dX6_readsPart_97 rfl (lv_at hl 3 rfl) ?_
            refine gX6_number F hI L_X6_160 dX6_readsPart_98 ?_
            refine tI (show _ = v24 40 5 from rfl) ?_
            refine aIsN F hI iX6_read (i := 4 * mm + w_) (by omega) (by decide) dX6_readsPart_101 (fun H locs hI => ?_)
            obtain ⟨c25, ec25⟩ : ∃ z9 : CF, z9 = up v24 49 (4 * mm + w_) (v24 40 5) := ⟨_, rfl⟩
            have hI : Iv E s H locs (c25, u.2) := by rw [ec25]; exact hI
            have kf26 : c25 40 4 = nI mm := by rw [ec25, up_at, if_neg (by omega)]; exact ((hnp.1 _ _ (by omega)).trans hm)
            refine lv_iload hx hy dX6_readsPart_102 (lv_at hl 0 rfl) ?_
            exact rZ hQ F (v := c25) rfl hI dX6_readsPart_104 (hnp.part0 hn9 ec25)
          · subst hr9
            refine tI (show _ = nI 1 from rfl) ?_
            refine lv_istore (lv' := [(5, .int (nI 1)), (4, .int (nI 0)), (3, .int (nI 0)), (0, .ref (eA E 48)), (1, .int (nI k)), (2, .int (nI w_))]) hx hy dX6_readsPart_83 hl (by decide) rfl (fun ls hl => ?_)
            refine lv_aload_n hx hy dX6_readsPart_85 rfl (lv_at hl 3 rfl) ?_
            refine gX6_read F hI L_X6_38 dX6_readsPart_86 ?_
            refine lv_iconst (v := nI 4) hx hy dX6_readsPart_89 (by decide) ?_
            refine lv_aload_n hx hy dX6_readsPart_90 rfl (lv_at hl 3 rfl) ?_
            refine gX6_readMany F hI L_X6_166 dX6_readsPart_91 ?_
            refine tI (show _ = v24 40 4 from rfl) ?_
            refine tI ((hnp.1 _ _ (by omega)).trans hm) ?_
            refine lv_imul hx hy dX6_readsPart_94 ?_
            refine tI (pk_mul (4) (mm)) ?_
            refine lv_iload_n hx hy dX6_readsPart_95 rfl (lv_at hl 5 rfl) ?_
            refine lv_iadd hx hy dX6_readsPart_96 ?_
            refine tI (nI_add (4 * mm) (w_)) ?_
            refine lv_aload_n hx hy dX6_readsPart_97 rfl (lv_at hl 3 rfl) ?_
            refine gX6_number F hI L_X6_160 dX6_readsPart_98 ?_
            refine tI (show _ = v24 40 5 from rfl) ?_
            refine tI h59 ?_
            refine aIsN F hI iX6_read (i := 4 * mm + w_) (by omega) (by decide) dX6_readsPart_101 (fun H locs hI => ?_)
            obtain ⟨c27, ec27⟩ : ∃ z9 : CF, z9 = up v24 49 (4 * mm + w_) (nI nv) := ⟨_, rfl⟩
            have hI : Iv E s H locs (c27, u.2) := by rw [ec27]; exact hI
            have kf28 : c27 40 4 = nI mm := by rw [ec27, up_at, if_neg (by omega)]; exact ((hnp.1 _ _ (by omega)).trans hm)
            have kf29 : c27 40 5 = nI nv := by rw [ec27, up_at, if_neg (by omega)]; exact h59
            refine lv_iload hx hy dX6_readsPart_102 (lv_at hl 0 rfl) ?_
            exact rZ hQ F (v := c27) rfl hI dX6_readsPart_104 (hnp.part1 hn9 ec27)
        · have h21 : k = 0 := (nI_eq (a := k) (b := 0) (by omega) (by omega)).mp h21
          refine lv_sipush (v := nI 256) hx hy dX6_readsPart_72 (by decide) ?_
          refine lv_goto (tgt := 80) hx hy dX6_readsPart_75 (by decide) ?_
          refine zI hI (xV F hI hl (kX6_readsNumber l E (u) hT 0 256 (by decide) (by decide) (by decide)) M_X6_163 (rX6 F hI) rfl ⟨Nat.le_of_ble_eq_true rfl, Nat.le_of_ble_eq_true rfl⟩ ⟨Nat.zero_le _, Nat.zero_le _⟩ rfl (Nat.le_of_ble_eq_true rfl) dX6_readsPart_80) (fun r31 v32 H locs hI hp30 => ?_)
          have hq9 : loK k w_ = 0 ∧ hiK k w_ = 256 := by
            have h9 := lo_hiM k hk w_ hw4 hw1 hwn
            rw [← h9.1, ← h9.2]
            unfold loM hiM
            constructor <;> (repeat' split) <;> omega
          have hnp : NumP z (loK k w_) (hiK k w_) a u.1 r31 v32 := by rw [hq9.1, hq9.2]; exact hp30
          rcases hnp.2.2 with ⟨hn9, hr9⟩ | ⟨nv, hn9, hr9, h59⟩
          · subst hr9
            refine tI (show _ = nI 0 from rfl) ?_
            refine lv_istore (lv' := [(5, .int (nI 0)), (4, .int (nI 0)), (3, .int (nI 0)), (0, .ref (eA E 48)), (1, .int (nI k)), (2, .int (nI w_))]) hx hy dX6_readsPart_83 hl (by decide) rfl (fun ls hl => ?_)
            refine lv_aload_n hx hy dX6_readsPart_85 rfl (lv_at hl 3 rfl) ?_
            refine gX6_read F hI L_X6_38 dX6_readsPart_86 ?_
            refine lv_iconst (v := nI 4) hx hy dX6_readsPart_89 (by decide) ?_
            refine lv_aload_n hx hy dX6_readsPart_90 rfl (lv_at hl 3 rfl) ?_
            refine gX6_readMany F hI L_X6_166 dX6_readsPart_91 ?_
            refine tI (show _ = v32 40 4 from rfl) ?_
            refine tI ((hnp.1 _ _ (by omega)).trans hm) ?_
            refine lv_imul hx hy dX6_readsPart_94 ?_
            refine tI (pk_mul (4) (mm)) ?_
            refine lv_iload_n hx hy dX6_readsPart_95 rfl (lv_at hl 5 rfl) ?_
            refine lv_iadd hx hy dX6_readsPart_96 ?_
            refine tI (nI_add (4 * mm) (w_)) ?_
            refine lv_aload_n hx hy dX6_readsPart_97 rfl (lv_at hl 3 rfl) ?_
            refine gX6_number F hI L_X6_160 dX6_readsPart_98 ?_
            refine tI (show _ = v32 40 5 from rfl) ?_
            refine aIsN F hI iX6_read (i := 4 * mm + w_) (by omega) (by decide) dX6_readsPart_101 (fun H locs hI => ?_)
            obtain ⟨c33, ec33⟩ : ∃ z9 : CF, z9 = up v32 49 (4 * mm + w_) (v32 40 5) := ⟨_, rfl⟩
            have hI : Iv E s H locs (c33, u.2) := by rw [ec33]; exact hI
            have kf34 : c33 40 4 = nI mm := by rw [ec33, up_at, if_neg (by omega)]; exact ((hnp.1 _ _ (by omega)).trans hm)
            refine lv_iload hx hy dX6_readsPart_102 (lv_at hl 0 rfl) ?_
            exact rZ hQ F (v := c33) rfl hI dX6_readsPart_104 (hnp.part0 hn9 ec33)
          · subst hr9
            refine tI (show _ = nI 1 from rfl) ?_
            refine lv_istore (lv' := [(5, .int (nI 1)), (4, .int (nI 0)), (3, .int (nI 0)), (0, .ref (eA E 48)), (1, .int (nI k)), (2, .int (nI w_))]) hx hy dX6_readsPart_83 hl (by decide) rfl (fun ls hl => ?_)
            refine lv_aload_n hx hy dX6_readsPart_85 rfl (lv_at hl 3 rfl) ?_
            refine gX6_read F hI L_X6_38 dX6_readsPart_86 ?_
            refine lv_iconst (v := nI 4) hx hy dX6_readsPart_89 (by decide) ?_
            refine lv_aload_n hx hy dX6_readsPart_90 rfl (lv_at hl 3 rfl) ?_
            refine gX6_readMany F hI L_X6_166 dX6_readsPart_91 ?_
            refine tI (show _ = v32 40 4 from rfl) ?_
            refine tI ((hnp.1 _ _ (by omega)).trans hm) ?_
            refine lv_imul hx hy dX6_readsPart_94 ?_
            refine tI (pk_mul (4) (mm)) ?_
            refine lv_iload_n hx hy dX6_readsPart_95 rfl (lv_at hl 5 rfl) ?_
            refine lv_iadd hx hy dX6_readsPart_96 ?_
            refine tI (nI_add (4 * mm) (w_)) ?_
            refine lv_aload_n hx hy dX6_readsPart_97 rfl (lv_at hl 3 rfl) ?_
            refine gX6_number F hI L_X6_160 dX6_readsPart_98 ?_
            refine tI (show _ = v32 40 5 from rfl) ?_
            refine tI h59 ?_
            refine aIsN F hI iX6_read (i := 4 * mm + w_) (by omega) (by decide) dX6_readsPart_101 (fun H locs hI => ?_)
            obtain ⟨c35, ec35⟩ : ∃ z9 : CF, z9 = up v32 49 (4 * mm + w_) (nI nv) := ⟨_, rfl⟩
            have hI : Iv E s H locs (c35, u.2) := by rw [ec35]; exact hI
            have kf36 : c35 40 4 = nI mm := by rw [ec35, up_at, if_neg (by omega)]; exact ((hnp.1 _ _ (by omega)).trans hm)
            have kf37 : c35 40 5 = nI nv := by rw [ec35, up_at, if_neg (by omega)]; exact h59
            refine lv_iload hx hy dX6_readsPart_102 (lv_at hl 0 rfl) ?_
            exact rZ hQ F (v := c35) rfl hI dX6_readsPart_104 (hnp.part1 hn9 ec35)
      · have h20 : w_ = 2 := (nI_eq (a := w_) (b := 2) (by omega) (by omega)).mp h20
        refine lv_iconst (v := nI 1) hx hy dX6_readsPart_26 (by decide) ?_
        refine lv_goto (tgt := 31) hx hy dX6_readsPart_27 (by decide) ?_
        refine lv_istore (lv' := [(4, .int (nI 1)), (3, .int (nI 0)), (0, .ref (eA E 48)), (1, .int (nI k)), (2, .int (nI w_))]) hx hy dX6_readsPart_31 hl (by decide) rfl (fun ls hl => ?_)
        refine lv_aload_n hx hy dX6_readsPart_33 rfl (lv_at hl 2 rfl) ?_
        refine lv_iload_n hx hy dX6_readsPart_34 rfl (lv_at hl 1 rfl) ?_
        refine lv_if_ne (tgt := 43) hx hy dX6_readsPart_35 (by decide) (fun q => absurd q (by decide)) (fun _ => ?_)
        refine lv_iload hx hy dX6_readsPart_38 (lv_at hl 0 rfl) ?_
        refine lv_if_eq (tgt := 47) hx hy dX6_readsPart_40 (by decide) (fun q => absurd q (by decide)) (fun _ => ?_)
        refine lv_iconst (v := nI 1) hx hy dX6_readsPart_43 (by decide) ?_
        refine lv_goto (tgt := 48) hx hy dX6_readsPart_44 (by decide) ?_
        refine lv_iload_n hx hy dX6_readsPart_48 rfl (lv_at hl 1 rfl) ?_
        refine lv_if_eq (tgt := 57) hx hy dX6_readsPart_49 (by decide) (fun _ => ?_) (fun q => absurd q (by decide))
        refine lv_iload hx hy dX6_readsPart_57 (lv_at hl 0 rfl) ?_
        refine lv_if_eq (tgt := 68) hx hy dX6_readsPart_59 (by decide) (fun q => absurd q (by decide)) (fun _ => ?_)
        refine lv_sipush (v := nI 255) hx hy dX6_readsPart_62 (by decide) ?_
        refine lv_goto (tgt := 80) hx hy dX6_readsPart_65 (by decide) ?_
        refine zI hI (xV F hI hl (kX6_readsNumber l E (u) hT 1 255 (by decide) (by decide) (by decide)) M_X6_163 (rX6 F hI) rfl ⟨Nat.le_of_ble_eq_true rfl, Nat.le_of_ble_eq_true rfl⟩ ⟨Nat.zero_le _, Nat.zero_le _⟩ rfl (Nat.le_of_ble_eq_true rfl) dX6_readsPart_80) (fun r39 v40 H locs hI hp38 => ?_)
        have hq9 : loK k w_ = 1 ∧ hiK k w_ = 255 := by
          have h9 := lo_hiM k hk w_ hw4 hw1 hwn
          rw [← h9.1, ← h9.2]
          unfold loM hiM
          constructor <;> (repeat' split) <;> omega
        have hnp : NumP z (loK k w_) (hiK k w_) a u.1 r39 v40 := by rw [hq9.1, hq9.2]; exact hp38
        rcases hnp.2.2 with ⟨hn9, hr9⟩ | ⟨nv, hn9, hr9, h59⟩
        · subst hr9
          refine tI (show _ = nI 0 from rfl) ?_
          refine lv_istore (lv' := [(5, .int (nI 0)), (4, .int (nI 1)), (3, .int (nI 0)), (0, .ref (eA E 48)), (1, .int (nI k)), (2, .int (nI w_))]) hx hy dX6_readsPart_83 hl (by decide) rfl (fun ls hl => ?_)
          refine lv_aload_n hx hy dX6_readsPart_85 rfl (lv_at hl 3 rfl) ?_
          refine gX6_read F hI L_X6_38 dX6_readsPart_86 ?_
          refine lv_iconst (v := nI 4) hx hy dX6_readsPart_89 (by decide) ?_
          refine lv_aload_n hx hy dX6_readsPart_90 rfl (lv_at hl 3 rfl) ?_
          refine gX6_readMany F hI L_X6_166 dX6_readsPart_91 ?_
          refine tI (show _ = v40 40 4 from rfl) ?_
          refine tI ((hnp.1 _ _ (by omega)).trans hm) ?_
          refine lv_imul hx hy dX6_readsPart_94 ?_
          refine tI (pk_mul (4) (mm)) ?_
          refine lv_iload_n hx hy dX6_readsPart_95 rfl (lv_at hl 5 rfl) ?_
          refine lv_iadd hx hy dX6_readsPart_96 ?_
          refine tI (nI_add (4 * mm) (w_)) ?_
          refine lv_aload_n hx hy dX6_readsPart_97 rfl (lv_at hl 3 rfl) ?_
          refine gX6_number F hI L_X6_160 dX6_readsPart_98 ?_
          refine tI (show _ = v40 40 5 from rfl) ?_
          refine aIsN F hI iX6_read (i := 4 * mm + w_) (by omega) (by decide) dX6_readsPart_101 (fun H locs hI => ?_)
          obtain ⟨c41, ec41⟩ : ∃ z9 : CF, z9 = up v40 49 (4 * mm + w_) (v40 40 5) := ⟨_, rfl⟩
          have hI : Iv E s H locs (c41, u.2) := by rw [ec41]; exact hI
          have kf42 : c41 40 4 = nI mm := by rw [ec41, up_at, if_neg (by omega)]; exact ((hnp.1 _ _ (by omega)).trans hm)
          refine lv_iload hx hy dX6_readsPart_102 (lv_at hl 0 rfl) ?_
          exact rZ hQ F (v := c41) rfl hI dX6_readsPart_104 (hnp.part0 hn9 ec41)
        · subst hr9
          refine tI (show _ = nI 1 from rfl) ?_
          refine lv_istore (lv' := [(5, .int (nI 1)), (4, .int (nI 1)), (3, .int (nI 0)), (0, .ref (eA E 48)), (1, .int (nI k)), (2, .int (nI w_))]) hx hy dX6_readsPart_83 hl (by decide) rfl (fun ls hl => ?_)
          refine lv_aload_n hx hy dX6_readsPart_85 rfl (lv_at hl 3 rfl) ?_
          refine gX6_read F hI L_X6_38 dX6_readsPart_86 ?_
          refine lv_iconst (v := nI 4) hx hy dX6_readsPart_89 (by decide) ?_
          refine lv_aload_n hx hy dX6_readsPart_90 rfl (lv_at hl 3 rfl) ?_
          refine gX6_readMany F hI L_X6_166 dX6_readsPart_91 ?_
          refine tI (show _ = v40 40 4 from rfl) ?_
          refine tI ((hnp.1 _ _ (by omega)).trans hm) ?_
          refine lv_imul hx hy dX6_readsPart_94 ?_
          refine tI (pk_mul (4) (mm)) ?_
          refine lv_iload_n hx hy dX6_readsPart_95 rfl (lv_at hl 5 rfl) ?_
          refine lv_iadd hx hy dX6_readsPart_96 ?_
          refine tI (nI_add (4 * mm) (w_)) ?_
          refine lv_aload_n hx hy dX6_readsPart_97 rfl (lv_at hl 3 rfl) ?_
          refine gX6_number F hI L_X6_160 dX6_readsPart_98 ?_
          refine tI (show _ = v40 40 5 from rfl) ?_
          refine tI h59 ?_
          refine aIsN F hI iX6_read (i := 4 * mm + w_) (by omega) (by decide) dX6_readsPart_101 (fun H locs hI => ?_)
          obtain ⟨c43, ec43⟩ : ∃ z9 : CF, z9 = up v40 49 (4 * mm + w_) (nI nv) := ⟨_, rfl⟩
          have hI : Iv E s H locs (c43, u.2) := by rw [ec43]; exact hI
          have kf44 : c43 40 4 = nI mm := by rw [ec43, up_at, if_neg (by omega)]; exact ((hnp.1 _ _ (by omega)).trans hm)
          have kf45 : c43 40 5 = nI nv := by rw [ec43, up_at, if_neg (by omega)]; exact h59
          refine lv_iload hx hy dX6_readsPart_102 (lv_at hl 0 rfl) ?_
          exact rZ hQ F (v := c43) rfl hI dX6_readsPart_104 (hnp.part1 hn9 ec43)
  · have h1 : k = 6 := (nI_eq (a := k) (b := 6) (by omega) (by omega)).mp h1
    refine lv_iload_n hx hy dX6_readsPart_6 rfl (lv_at hl 2 rfl) ?_
    refine lv_iconst (v := nI 2) hx hy dX6_readsPart_7 (by decide) ?_
    refine lv_icmp_ne (tgt := 15) hx hy dX6_readsPart_8 (by decide) (fun h46 => ?_) (fun h46 => ?_)
    · have h46 : w_ ≠ 2 := fun q9 => h46 ((nI_eq (a := w_) (b := 2) (by omega) (by omega)).mpr q9)
      refine lv_iconst (v := nI 0) hx hy dX6_readsPart_15 (by decide) ?_
      refine lv_istore_n (lv' := [(3, .int (nI 0)), (0, .ref (eA E 48)), (1, .int (nI k)), (2, .int (nI w_))]) hx hy dX6_readsPart_16 rfl hl (by decide) rfl (fun ls hl => ?_)
      refine lv_iload_n hx hy dX6_readsPart_17 rfl (lv_at hl 2 rfl) ?_
      refine lv_if_ne (tgt := 30) hx hy dX6_readsPart_18 (by decide) (fun h47 => ?_) (fun h47 => ?_)
      · have h47 : k ≠ 0 := fun q9 => h47 ((nI_eq (a := k) (b := 0) (by omega) (by omega)).mpr q9)
        refine lv_iconst (v := nI 0) hx hy dX6_readsPart_30 (by decide) ?_
        refine lv_istore (lv' := [(4, .int (nI 0)), (3, .int (nI 0)), (0, .ref (eA E 48)), (1, .int (nI k)), (2, .int (nI w_))]) hx hy dX6_readsPart_31 hl (by decide) rfl (fun ls hl => ?_)
        refine lv_aload_n hx hy dX6_readsPart_33 rfl (lv_at hl 2 rfl) ?_
        refine lv_iload_n hx hy dX6_readsPart_34 rfl (lv_at hl 1 rfl) ?_
        refine lv_if_ne (tgt := 43) hx hy dX6_readsPart_35 (by decide) (fun q => absurd q (by decide)) (fun _ => ?_)
        refine lv_iload hx hy dX6_readsPart_38 (lv_at hl 0 rfl) ?_
        refine lv_if_eq (tgt := 47) hx hy dX6_readsPart_40 (by decide) (fun _ => ?_) (fun q => absurd q (by decide))
        refine lv_iconst (v := nI 0) hx hy dX6_readsPart_47 (by decide) ?_
        refine lv_iload_n hx hy dX6_readsPart_48 rfl (lv_at hl 1 rfl) ?_
        refine lv_if_eq (tgt := 57) hx hy dX6_readsPart_49 (by decide) (fun _ => ?_) (fun q => absurd q (by decide))
        refine lv_iload hx hy dX6_readsPart_57 (lv_at hl 0 rfl) ?_
        refine lv_if_eq (tgt := 68) hx hy dX6_readsPart_59 (by decide) (fun _ => ?_) (fun q => absurd q (by decide))
        refine lv_iload_n hx hy dX6_readsPart_68 rfl (lv_at hl 3 rfl) ?_
        refine lv_if_ne (tgt := 78) hx hy dX6_readsPart_69 (by decide) (fun h48 => ?_) (fun h48 => ?_)
        · have h48 : k ≠ 0 := fun q9 => h48 ((nI_eq (a := k) (b := 0) (by omega) (by omega)).mpr q9)
          refine lv_bipush (v := nI 15) hx hy dX6_readsPart_78 (by decide) ?_
          refine zI hI (xV F hI hl (kX6_readsNumber l E (u) hT 0 15 (by decide) (by decide) (by decide)) M_X6_163 (rX6 F hI) rfl ⟨Nat.le_of_ble_eq_true rfl, Nat.le_of_ble_eq_true rfl⟩ ⟨Nat.zero_le _, Nat.zero_le _⟩ rfl (Nat.le_of_ble_eq_true rfl) dX6_readsPart_80) (fun r50 v51 H locs hI hp49 => ?_)
          have hq9 : loK k w_ = 0 ∧ hiK k w_ = 15 := by
            have h9 := lo_hiM k hk w_ hw4 hw1 hwn
            rw [← h9.1, ← h9.2]
            unfold loM hiM
            constructor <;> (repeat' split) <;> omega
          have hnp : NumP z (loK k w_) (hiK k w_) a u.1 r50 v51 := by rw [hq9.1, hq9.2]; exact hp49
          rcases hnp.2.2 with ⟨hn9, hr9⟩ | ⟨nv, hn9, hr9, h59⟩
          · subst hr9
            refine tI (show _ = nI 0 from rfl) ?_
            refine lv_istore (lv' := [(5, .int (nI 0)), (4, .int (nI 0)), (3, .int (nI 0)), (0, .ref (eA E 48)), (1, .int (nI k)), (2, .int (nI w_))]) hx hy dX6_readsPart_83 hl (by decide) rfl (fun ls hl => ?_)
            refine lv_aload_n hx hy dX6_readsPart_85 rfl (lv_at hl 3 rfl) ?_
            refine gX6_read F hI L_X6_38 dX6_readsPart_86 ?_
            refine lv_iconst (v := nI 4) hx hy dX6_readsPart_89 (by decide) ?_
            refine lv_aload_n hx hy dX6_readsPart_90 rfl (lv_at hl 3 rfl) ?_
            refine gX6_readMany F hI L_X6_166 dX6_readsPart_91 ?_
            refine tI (show _ = v51 40 4 from rfl) ?_
            refine tI ((hnp.1 _ _ (by omega)).trans hm) ?_
            refine lv_imul hx hy dX6_readsPart_94 ?_
            refine tI (pk_mul (4) (mm)) ?_
            refine lv_iload_n hx hy dX6_readsPart_95 rfl (lv_at hl 5 rfl) ?_
            refine lv_iadd hx hy dX6_readsPart_96 ?_
            refine tI (nI_add (4 * mm) (w_)) ?_
            refine lv_aload_n hx hy dX6_readsPart_97 rfl (lv_at hl 3 rfl) ?_
            refine gX6_number F hI L_X6_160 dX6_readsPart_98 ?_
            refine tI (show _ = v51 40 5 from rfl) ?_
            refine aIsN F hI iX6_read (i := 4 * mm + w_) (by omega) (by decide) dX6_readsPart_101 (fun H locs hI => ?_)
            obtain ⟨c52, ec52⟩ : ∃ z9 : CF, z9 = up v51 49 (4 * mm + w_) (v51 40 5) := ⟨_, rfl⟩
            have hI : Iv E s H locs (c52, u.2) := by rw [ec52]; exact hI
            have kf53 : c52 40 4 = nI mm := by rw [ec52, up_at, if_neg (by omega)]; exact ((hnp.1 _ _ (by omega)).trans hm)
            refine lv_iload hx hy dX6_readsPart_102 (lv_at hl 0 rfl) ?_
            exact rZ hQ F (v := c52) rfl hI dX6_readsPart_104 (hnp.part0 hn9 ec52)
          · subst hr9
            refine tI (show _ = nI 1 from rfl) ?_
            refine lv_istore (lv' := [(5, .int (nI 1)), (4, .int (nI 0)), (3, .int (nI 0)), (0, .ref (eA E 48)), (1, .int (nI k)), (2, .int (nI w_))]) hx hy dX6_readsPart_83 hl (by decide) rfl (fun ls hl => ?_)
            refine lv_aload_n hx hy dX6_readsPart_85 rfl (lv_at hl 3 rfl) ?_
            refine gX6_read F hI L_X6_38 dX6_readsPart_86 ?_
            refine lv_iconst (v := nI 4) hx hy dX6_readsPart_89 (by decide) ?_
            refine lv_aload_n hx hy dX6_readsPart_90 rfl (lv_at hl 3 rfl) ?_
            refine gX6_readMany F hI L_X6_166 dX6_readsPart_91 ?_
            refine tI (show _ = v51 40 4 from rfl) ?_
            refine tI ((hnp.1 _ _ (by omega)).trans hm) ?_
            refine lv_imul hx hy dX6_readsPart_94 ?_
            refine tI (pk_mul (4) (mm)) ?_
            refine lv_iload_n hx hy dX6_readsPart_95 rfl (lv_at hl 5 rfl) ?_
            refine lv_iadd hx hy dX6_readsPart_96 ?_
            refine tI (nI_add (4 * mm) (w_)) ?_
            refine lv_aload_n hx hy dX6_readsPart_97 rfl (lv_at hl 3 rfl) ?_
            refine gX6_number F hI L_X6_160 dX6_readsPart_98 ?_
            refine tI (show _ = v51 40 5 from rfl) ?_
            refine tI h59 ?_
            refine aIsN F hI iX6_read (i := 4 * mm + w_) (by omega) (by decide) dX6_readsPart_101 (fun H locs hI => ?_)
            obtain ⟨c54, ec54⟩ : ∃ z9 : CF, z9 = up v51 49 (4 * mm + w_) (nI nv) := ⟨_, rfl⟩
            have hI : Iv E s H locs (c54, u.2) := by rw [ec54]; exact hI
            have kf55 : c54 40 4 = nI mm := by rw [ec54, up_at, if_neg (by omega)]; exact ((hnp.1 _ _ (by omega)).trans hm)
            have kf56 : c54 40 5 = nI nv := by rw [ec54, up_at, if_neg (by omega)]; exact h59
            refine lv_iload hx hy dX6_readsPart_102 (lv_at hl 0 rfl) ?_
            exact rZ hQ F (v := c54) rfl hI dX6_readsPart_104 (hnp.part1 hn9 ec54)
        · have h48 : k = 0 := (nI_eq (a := k) (b := 0) (by omega) (by omega)).mp h48
          refine lv_sipush (v := nI 256) hx hy dX6_readsPart_72 (by decide) ?_
          refine lv_goto (tgt := 80) hx hy dX6_readsPart_75 (by decide) ?_
          refine zI hI (xV F hI hl (kX6_readsNumber l E (u) hT 0 256 (by decide) (by decide) (by decide)) M_X6_163 (rX6 F hI) rfl ⟨Nat.le_of_ble_eq_true rfl, Nat.le_of_ble_eq_true rfl⟩ ⟨Nat.zero_le _, Nat.zero_le _⟩ rfl (Nat.le_of_ble_eq_true rfl) dX6_readsPart_80) (fun r58 v59 H locs hI hp57 => ?_)
          have hq9 : loK k w_ = 0 ∧ hiK k w_ = 256 := by
            have h9 := lo_hiM k hk w_ hw4 hw1 hwn
            rw [← h9.1, ← h9.2]
            unfold loM hiM
            constructor <;> (repeat' split) <;> omega
          have hnp : NumP z (loK k w_) (hiK k w_) a u.1 r58 v59 := by rw [hq9.1, hq9.2]; exact hp57
          rcases hnp.2.2 with ⟨hn9, hr9⟩ | ⟨nv, hn9, hr9, h59⟩
          · subst hr9
            refine tI (show _ = nI 0 from rfl) ?_
            refine lv_istore (lv' := [(5, .int (nI 0)), (4, .int (nI 0)), (3, .int (nI 0)), (0, .ref (eA E 48)), (1, .int (nI k)), (2, .int (nI w_))]) hx hy dX6_readsPart_83 hl (by decide) rfl (fun ls hl => ?_)
            refine lv_aload_n hx hy dX6_readsPart_85 rfl (lv_at hl 3 rfl) ?_
            refine gX6_read F hI L_X6_38 dX6_readsPart_86 ?_
            refine lv_iconst (v := nI 4) hx hy dX6_readsPart_89 (by decide) ?_
            refine lv_aload_n hx hy dX6_readsPart_90 rfl (lv_at hl 3 rfl) ?_
            refine gX6_readMany F hI L_X6_166 dX6_readsPart_91 ?_
            refine tI (show _ = v59 40 4 from rfl) ?_
            refine tI ((hnp.1 _ _ (by omega)).trans hm) ?_
            refine lv_imul hx hy dX6_readsPart_94 ?_
            refine tI (pk_mul (4) (mm)) ?_
            refine lv_iload_n hx hy dX6_readsPart_95 rfl (lv_at hl 5 rfl) ?_
            refine lv_iadd hx hy dX6_readsPart_96 ?_
            refine tI (nI_add (4 * mm) (w_)) ?_
            refine lv_aload_n hx hy dX6_readsPart_97 rfl (lv_at hl 3 rfl) ?_
            refine gX6_number F hI L_X6_160 dX6_readsPart_98 ?_
            refine tI (show _ = v59 40 5 from rfl) ?_
            refine aIsN F hI iX6_read (i := 4 * mm + w_) (by omega) (by decide) dX6_readsPart_101 (fun H locs hI => ?_)
            obtain ⟨c60, ec60⟩ : ∃ z9 : CF, z9 = up v59 49 (4 * mm + w_) (v59 40 5) := ⟨_, rfl⟩
            have hI : Iv E s H locs (c60, u.2) := by rw [ec60]; exact hI
            have kf61 : c60 40 4 = nI mm := by rw [ec60, up_at, if_neg (by omega)]; exact ((hnp.1 _ _ (by omega)).trans hm)
            refine lv_iload hx hy dX6_readsPart_102 (lv_at hl 0 rfl) ?_
            exact rZ hQ F (v := c60) rfl hI dX6_readsPart_104 (hnp.part0 hn9 ec60)
          · subst hr9
            refine tI (show _ = nI 1 from rfl) ?_
            refine lv_istore (lv' := [(5, .int (nI 1)), (4, .int (nI 0)), (3, .int (nI 0)), (0, .ref (eA E 48)), (1, .int (nI k)), (2, .int (nI w_))]) hx hy dX6_readsPart_83 hl (by decide) rfl (fun ls hl => ?_)
            refine lv_aload_n hx hy dX6_readsPart_85 rfl (lv_at hl 3 rfl) ?_
            refine gX6_read F hI L_X6_38 dX6_readsPart_86 ?_
            refine lv_iconst (v := nI 4) hx hy dX6_readsPart_89 (by decide) ?_
            refine lv_aload_n hx hy dX6_readsPart_90 rfl (lv_at hl 3 rfl) ?_
            refine gX6_readMany F hI L_X6_166 dX6_readsPart_91 ?_
            refine tI (show _ = v59 40 4 from rfl) ?_
            refine tI ((hnp.1 _ _ (by omega)).trans hm) ?_
            refine lv_imul hx hy dX6_readsPart_94 ?_
            refine tI (pk_mul (4) (mm)) ?_
            refine lv_iload_n hx hy dX6_readsPart_95 rfl (lv_at hl 5 rfl) ?_
            refine lv_iadd hx hy dX6_readsPart_96 ?_
            refine tI (nI_add (4 * mm) (w_)) ?_
            refine lv_aload_n hx hy dX6_readsPart_97 rfl (lv_at hl 3 rfl) ?_
            refine gX6_number F hI L_X6_160 dX6_readsPart_98 ?_
            refine tI (show _ = v59 40 5 from rfl) ?_
            refine tI h59 ?_
            refine aIsN F hI iX6_read (i := 4 * mm + w_) (by omega) (by decide) dX6_readsPart_101 (fun H locs hI => ?_)
            obtain ⟨c62, ec62⟩ : ∃ z9 : CF, z9 = up v59 49 (4 * mm + w_) (nI nv) := ⟨_, rfl⟩
            have hI : Iv E s H locs (c62, u.2) := by rw [ec62]; exact hI
            have kf63 : c62 40 4 = nI mm := by rw [ec62, up_at, if_neg (by omega)]; exact ((hnp.1 _ _ (by omega)).trans hm)
            have kf64 : c62 40 5 = nI nv := by rw [ec62, up_at, if_neg (by omega)]; exact h59
            refine lv_iload hx hy dX6_readsPart_102 (lv_at hl 0 rfl) ?_
            exact rZ hQ F (v := c62) rfl hI dX6_readsPart_104 (hnp.part1 hn9 ec62)
      · have h47 : k = 0 := (nI_eq (a := k) (b := 0) (by omega) (by omega)).mp h47
        refine lv_iload_n hx hy dX6_readsPart_21 rfl (lv_at hl 3 rfl) ?_
        refine lv_iconst (v := nI 2) hx hy dX6_readsPart_22 (by decide) ?_
        refine lv_icmp_ne (tgt := 30) hx hy dX6_readsPart_23 (by decide) (fun h65 => ?_) (fun h65 => ?_)
        · have h65 : w_ ≠ 2 := fun q9 => h65 ((nI_eq (a := w_) (b := 2) (by omega) (by omega)).mpr q9)
          refine lv_iconst (v := nI 0) hx hy dX6_readsPart_30 (by decide) ?_
          refine lv_istore (lv' := [(4, .int (nI 0)), (3, .int (nI 0)), (0, .ref (eA E 48)), (1, .int (nI k)), (2, .int (nI w_))]) hx hy dX6_readsPart_31 hl (by decide) rfl (fun ls hl => ?_)
          refine lv_aload_n hx hy dX6_readsPart_33 rfl (lv_at hl 2 rfl) ?_
          refine lv_iload_n hx hy dX6_readsPart_34 rfl (lv_at hl 1 rfl) ?_
          refine lv_if_ne (tgt := 43) hx hy dX6_readsPart_35 (by decide) (fun q => absurd q (by decide)) (fun _ => ?_)
          refine lv_iload hx hy dX6_readsPart_38 (lv_at hl 0 rfl) ?_
          refine lv_if_eq (tgt := 47) hx hy dX6_readsPart_40 (by decide) (fun _ => ?_) (fun q => absurd q (by decide))
          refine lv_iconst (v := nI 0) hx hy dX6_readsPart_47 (by decide) ?_
          refine lv_iload_n hx hy dX6_readsPart_48 rfl (lv_at hl 1 rfl) ?_
          refine lv_if_eq (tgt := 57) hx hy dX6_readsPart_49 (by decide) (fun _ => ?_) (fun q => absurd q (by decide))
          refine lv_iload hx hy dX6_readsPart_57 (lv_at hl 0 rfl) ?_
          refine lv_if_eq (tgt := 68) hx hy dX6_readsPart_59 (by decide) (fun _ => ?_) (fun q => absurd q (by decide))
          refine lv_iload_n hx hy dX6_readsPart_68 rfl (lv_at hl 3 rfl) ?_
          refine lv_if_ne (tgt := 78) hx hy dX6_readsPart_69 (by decide) (fun h66 => ?_) (fun h66 => ?_)
          · have h66 : k ≠ 0 := fun q9 => h66 ((nI_eq (a := k) (b := 0) (by omega) (by omega)).mpr q9)
            refine lv_bipush (v := nI 15) hx hy dX6_readsPart_78 (by decide) ?_
            refine zI hI (xV F hI hl (kX6_readsNumber l E (u) hT 0 15 (by decide) (by decide) (by decide)) M_X6_163 (rX6 F hI) rfl ⟨Nat.le_of_ble_eq_true rfl, Nat.le_of_ble_eq_true rfl⟩ ⟨Nat.zero_le _, Nat.zero_le _⟩ rfl (Nat.le_of_ble_eq_true rfl) dX6_readsPart_80) (fun r68 v69 H locs hI hp67 => ?_)
            have hq9 : loK k w_ = 0 ∧ hiK k w_ = 15 := by
              have h9 := lo_hiM k hk w_ hw4 hw1 hwn
              rw [← h9.1, ← h9.2]
              unfold loM hiM
              constructor <;> (repeat' split) <;> omega
            have hnp : NumP z (loK k w_) (hiK k w_) a u.1 r68 v69 := by rw [hq9.1, hq9.2]; exact hp67
            rcases hnp.2.2 with ⟨hn9, hr9⟩ | ⟨nv, hn9, hr9, h59⟩
            · subst hr9
              refine tI (show _ = nI 0 from rfl) ?_
              refine lv_istore (lv' := [(5, .int (nI 0)), (4, .int (nI 0)), (3, .int (nI 0)), (0, .ref (eA E 48)), (1, .int (nI k)), (2, .int (nI w_))]) hx hy dX6_readsPart_83 hl (by decide) rfl (fun ls hl => ?_)
              refine lv_aload_n hx hy dX6_readsPart_85 rfl (lv_at hl 3 rfl) ?_
              refine gX6_read F hI L_X6_38 dX6_readsPart_86 ?_
              refine lv_iconst (v := nI 4) hx hy dX6_readsPart_89 (by decide) ?_
              refine lv_aload_n hx hy dX6_readsPart_90 rfl (lv_at hl 3 rfl) ?_
              refine gX6_readMany F hI L_X6_166 dX6_readsPart_91 ?_
              refine tI (show _ = v69 40 4 from rfl) ?_
              refine tI ((hnp.1 _ _ (by omega)).trans hm) ?_
              refine lv_imul hx hy dX6_readsPart_94 ?_
              refine tI (pk_mul (4) (mm)) ?_
              refine lv_iload_n hx hy dX6_readsPart_95 rfl (lv_at hl 5 rfl) ?_
              refine lv_iadd hx hy dX6_readsPart_96 ?_
              refine tI (nI_add (4 * mm) (w_)) ?_
              refine lv_aload_n hx hy dX6_readsPart_97 rfl (lv_at hl 3 rfl) ?_
              refine gX6_number F hI L_X6_160 dX6_readsPart_98 ?_
              refine tI (show _ = v69 40 5 from rfl) ?_
              refine aIsN F hI iX6_read (i := 4 * mm + w_) (by omega) (by decide) dX6_readsPart_101 (fun H locs hI => ?_)
              obtain ⟨c70, ec70⟩ : ∃ z9 : CF, z9 = up v69 49 (4 * mm + w_) (v69 40 5) := ⟨_, rfl⟩
              have hI : Iv E s H locs (c70, u.2) := by rw [ec70]; exact hI
              have kf71 : c70 40 4 = nI mm := by rw [ec70, up_at, if_neg (by omega)]; exact ((hnp.1 _ _ (by omega)).trans hm)
              refine lv_iload hx hy dX6_readsPart_102 (lv_at hl 0 rfl) ?_
              exact rZ hQ F (v := c70) rfl hI dX6_readsPart_104 (hnp.part0 hn9 ec70)
            · subst hr9
              refine tI (show _ = nI 1 from rfl) ?_
              refine lv_istore (lv' := [(5, .int (nI 1)), (4, .int (nI 0)), (3, .int (nI 0)), (0, .ref (eA E 48)), (1, .int (nI k)), (2, .int (nI w_))]) hx hy dX6_readsPart_83 hl (by decide) rfl (fun ls hl => ?_)
              refine lv_aload_n hx hy dX6_readsPart_85 rfl (lv_at hl 3 rfl) ?_
              refine gX6_read F hI L_X6_38 dX6_readsPart_86 ?_
              refine lv_iconst (v := nI 4) hx hy dX6_readsPart_89 (by decide) ?_
              refine lv_aload_n hx hy dX6_readsPart_90 rfl (lv_at hl 3 rfl) ?_
              refine gX6_readMany F hI L_X6_166 dX6_readsPart_91 ?_
              refine tI (show _ = v69 40 4 from rfl) ?_
              refine tI ((hnp.1 _ _ (by omega)).trans hm) ?_
              refine lv_imul hx hy dX6_readsPart_94 ?_
              refine tI (pk_mul (4) (mm)) ?_
              refine lv_iload_n hx hy dX6_readsPart_95 rfl (lv_at hl 5 rfl) ?_
              refine lv_iadd hx hy dX6_readsPart_96 ?_
              refine tI (nI_add (4 * mm) (w_)) ?_
              refine lv_aload_n hx hy dX6_readsPart_97 rfl (lv_at hl 3 rfl) ?_
              refine gX6_number F hI L_X6_160 dX6_readsPart_98 ?_
              refine tI (show _ = v69 40 5 from rfl) ?_
              refine tI h59 ?_
              refine aIsN F hI iX6_read (i := 4 * mm + w_) (by omega) (by decide) dX6_readsPart_101 (fun H locs hI => ?_)
              obtain ⟨c72, ec72⟩ : ∃ z9 : CF, z9 = up v69 49 (4 * mm + w_) (nI nv) := ⟨_, rfl⟩
              have hI : Iv E s H locs (c72, u.2) := by rw [ec72]; exact hI
              have kf73 : c72 40 4 = nI mm := by rw [ec72, up_at, if_neg (by omega)]; exact ((hnp.1 _ _ (by omega)).trans hm)
              have kf74 : c72 40 5 = nI nv := by rw [ec72, up_at, if_neg (by omega)]; exact h59
              refine lv_iload hx hy dX6_readsPart_102 (lv_at hl 0 rfl) ?_
              exact rZ hQ F (v := c72) rfl hI dX6_readsPart_104 (hnp.part1 hn9 ec72)
          · have h66 : k = 0 := (nI_eq (a := k) (b := 0) (by omega) (by omega)).mp h66
            refine lv_sipush (v := nI 256) hx hy dX6_readsPart_72 (by decide) ?_
            refine lv_goto (tgt := 80) hx hy dX6_readsPart_75 (by decide) ?_
            refine zI hI (xV F hI hl (kX6_readsNumber l E (u) hT 0 256 (by decide) (by decide) (by decide)) M_X6_163 (rX6 F hI) rfl ⟨Nat.le_of_ble_eq_true rfl, Nat.le_of_ble_eq_true rfl⟩ ⟨Nat.zero_le _, Nat.zero_le _⟩ rfl (Nat.le_of_ble_eq_true rfl) dX6_readsPart_80) (fun r76 v77 H locs hI hp75 => ?_)
            have hq9 : loK k w_ = 0 ∧ hiK k w_ = 256 := by
              have h9 := lo_hiM k hk w_ hw4 hw1 hwn
              rw [← h9.1, ← h9.2]
              unfold loM hiM
              constructor <;> (repeat' split) <;> omega
            have hnp : NumP z (loK k w_) (hiK k w_) a u.1 r76 v77 := by rw [hq9.1, hq9.2]; exact hp75
            rcases hnp.2.2 with ⟨hn9, hr9⟩ | ⟨nv, hn9, hr9, h59⟩
            · subst hr9
              refine tI (show _ = nI 0 from rfl) ?_
              refine lv_istore (lv' := [(5, .int (nI 0)), (4, .int (nI 0)), (3, .int (nI 0)), (0, .ref (eA E 48)), (1, .int (nI k)), (2, .int (nI w_))]) hx hy dX6_readsPart_83 hl (by decide) rfl (fun ls hl => ?_)
              refine lv_aload_n hx hy dX6_readsPart_85 rfl (lv_at hl 3 rfl) ?_
              refine gX6_read F hI L_X6_38 dX6_readsPart_86 ?_
              refine lv_iconst (v := nI 4) hx hy dX6_readsPart_89 (by decide) ?_
              refine lv_aload_n hx hy dX6_readsPart_90 rfl (lv_at hl 3 rfl) ?_
              refine gX6_readMany F hI L_X6_166 dX6_readsPart_91 ?_
              refine tI (show _ = v77 40 4 from rfl) ?_
              refine tI ((hnp.1 _ _ (by omega)).trans hm) ?_
              refine lv_imul hx hy dX6_readsPart_94 ?_
              refine tI (pk_mul (4) (mm)) ?_
              refine lv_iload_n hx hy dX6_readsPart_95 rfl (lv_at hl 5 rfl) ?_
              refine lv_iadd hx hy dX6_readsPart_96 ?_
              refine tI (nI_add (4 * mm) (w_)) ?_
              refine lv_aload_n hx hy dX6_readsPart_97 rfl (lv_at hl 3 rfl) ?_
              refine gX6_number F hI L_X6_160 dX6_readsPart_98 ?_
              refine tI (show _ = v77 40 5 from rfl) ?_
              refine aIsN F hI iX6_read (i := 4 * mm + w_) (by omega) (by decide) dX6_readsPart_101 (fun H locs hI => ?_)
              obtain ⟨c78, ec78⟩ : ∃ z9 : CF, z9 = up v77 49 (4 * mm + w_) (v77 40 5) := ⟨_, rfl⟩
              have hI : Iv E s H locs (c78, u.2) := by rw [ec78]; exact hI
              have kf79 : c78 40 4 = nI mm := by rw [ec78, up_at, if_neg (by omega)]; exact ((hnp.1 _ _ (by omega)).trans hm)
              refine lv_iload hx hy dX6_readsPart_102 (lv_at hl 0 rfl) ?_
              exact rZ hQ F (v := c78) rfl hI dX6_readsPart_104 (hnp.part0 hn9 ec78)
            · subst hr9
              refine tI (show _ = nI 1 from rfl) ?_
              refine lv_istore (lv' := [(5, .int (nI 1)), (4, .int (nI 0)), (3, .int (nI 0)), (0, .ref (eA E 48)), (1, .int (nI k)), (2, .int (nI w_))]) hx hy dX6_readsPart_83 hl (by decide) rfl (fun ls hl => ?_)
              refine lv_aload_n hx hy dX6_readsPart_85 rfl (lv_at hl 3 rfl) ?_
              refine gX6_read F hI L_X6_38 dX6_readsPart_86 ?_
              refine lv_iconst (v := nI 4) hx hy dX6_readsPart_89 (by decide) ?_
              refine lv_aload_n hx hy dX6_readsPart_90 rfl (lv_at hl 3 rfl) ?_
              refine gX6_readMany F hI L_X6_166 dX6_readsPart_91 ?_
              refine tI (show _ = v77 40 4 from rfl) ?_
              refine tI ((hnp.1 _ _ (by omega)).trans hm) ?_
              refine lv_imul hx hy dX6_readsPart_94 ?_
              refine tI (pk_mul (4) (mm)) ?_
              refine lv_iload_n hx hy dX6_readsPart_95 rfl (lv_at hl 5 rfl) ?_
              refine lv_iadd hx hy dX6_readsPart_96 ?_
              refine tI (nI_add (4 * mm) (w_)) ?_
              refine lv_aload_n hx hy dX6_readsPart_97 rfl (lv_at hl 3 rfl) ?_
              refine gX6_number F hI L_X6_160 dX6_readsPart_98 ?_
              refine tI (show _ = v77 40 5 from rfl) ?_
              refine tI h59 ?_
              refine aIsN F hI iX6_read (i := 4 * mm + w_) (by omega) (by decide) dX6_readsPart_101 (fun H locs hI => ?_)
              obtain ⟨c80, ec80⟩ : ∃ z9 : CF, z9 = up v77 49 (4 * mm + w_) (nI nv) := ⟨_, rfl⟩
              have hI : Iv E s H locs (c80, u.2) := by rw [ec80]; exact hI
              have kf81 : c80 40 4 = nI mm := by rw [ec80, up_at, if_neg (by omega)]; exact ((hnp.1 _ _ (by omega)).trans hm)
              have kf82 : c80 40 5 = nI nv := by rw [ec80, up_at, if_neg (by omega)]; exact h59
              refine lv_iload hx hy dX6_readsPart_102 (lv_at hl 0 rfl) ?_
              exact rZ hQ F (v := c80) rfl hI dX6_readsPart_104 (hnp.part1 hn9 ec80)
        · have h65 : w_ = 2 := (nI_eq (a := w_) (b := 2) (by omega) (by omega)).mp h65
          refine lv_iconst (v := nI 1) hx hy dX6_readsPart_26 (by decide) ?_
          refine lv_goto (tgt := 31) hx hy dX6_readsPart_27 (by decide) ?_
          refine lv_istore (lv' := [(4, .int (nI 1)), (3, .int (nI 0)), (0, .ref (eA E 48)), (1, .int (nI k)), (2, .int (nI w_))]) hx hy dX6_readsPart_31 hl (by decide) rfl (fun ls hl => ?_)
          refine lv_aload_n hx hy dX6_readsPart_33 rfl (lv_at hl 2 rfl) ?_
          refine lv_iload_n hx hy dX6_readsPart_34 rfl (lv_at hl 1 rfl) ?_
          refine lv_if_ne (tgt := 43) hx hy dX6_readsPart_35 (by decide) (fun q => absurd q (by decide)) (fun _ => ?_)
          refine lv_iload hx hy dX6_readsPart_38 (lv_at hl 0 rfl) ?_
          refine lv_if_eq (tgt := 47) hx hy dX6_readsPart_40 (by decide) (fun q => absurd q (by decide)) (fun _ => ?_)
          refine lv_iconst (v := nI 1) hx hy dX6_readsPart_43 (by decide) ?_
          refine lv_goto (tgt := 48) hx hy dX6_readsPart_44 (by decide) ?_
          refine lv_iload_n hx hy dX6_readsPart_48 rfl (lv_at hl 1 rfl) ?_
          refine lv_if_eq (tgt := 57) hx hy dX6_readsPart_49 (by decide) (fun _ => ?_) (fun q => absurd q (by decide))
          refine lv_iload hx hy dX6_readsPart_57 (lv_at hl 0 rfl) ?_
          refine lv_if_eq (tgt := 68) hx hy dX6_readsPart_59 (by decide) (fun q => absurd q (by decide)) (fun _ => ?_)
          refine lv_sipush (v := nI 255) hx hy dX6_readsPart_62 (by decide) ?_
          refine lv_goto (tgt := 80) hx hy dX6_readsPart_65 (by decide) ?_
          refine zI hI (xV F hI hl (kX6_readsNumber l E (u) hT 1 255 (by decide) (by decide) (by decide)) M_X6_163 (rX6 F hI) rfl ⟨Nat.le_of_ble_eq_true rfl, Nat.le_of_ble_eq_true rfl⟩ ⟨Nat.zero_le _, Nat.zero_le _⟩ rfl (Nat.le_of_ble_eq_true rfl) dX6_readsPart_80) (fun r84 v85 H locs hI hp83 => ?_)
          have hq9 : loK k w_ = 1 ∧ hiK k w_ = 255 := by
            have h9 := lo_hiM k hk w_ hw4 hw1 hwn
            rw [← h9.1, ← h9.2]
            unfold loM hiM
            constructor <;> (repeat' split) <;> omega
          have hnp : NumP z (loK k w_) (hiK k w_) a u.1 r84 v85 := by rw [hq9.1, hq9.2]; exact hp83
          rcases hnp.2.2 with ⟨hn9, hr9⟩ | ⟨nv, hn9, hr9, h59⟩
          · subst hr9
            refine tI (show _ = nI 0 from rfl) ?_
            refine lv_istore (lv' := [(5, .int (nI 0)), (4, .int (nI 1)), (3, .int (nI 0)), (0, .ref (eA E 48)), (1, .int (nI k)), (2, .int (nI w_))]) hx hy dX6_readsPart_83 hl (by decide) rfl (fun ls hl => ?_)
            refine lv_aload_n hx hy dX6_readsPart_85 rfl (lv_at hl 3 rfl) ?_
            refine gX6_read F hI L_X6_38 dX6_readsPart_86 ?_
            refine lv_iconst (v := nI 4) hx hy dX6_readsPart_89 (by decide) ?_
            refine lv_aload_n hx hy dX6_readsPart_90 rfl (lv_at hl 3 rfl) ?_
            refine gX6_readMany F hI L_X6_166 dX6_readsPart_91 ?_
            refine tI (show _ = v85 40 4 from rfl) ?_
            refine tI ((hnp.1 _ _ (by omega)).trans hm) ?_
            refine lv_imul hx hy dX6_readsPart_94 ?_
            refine tI (pk_mul (4) (mm)) ?_
            refine lv_iload_n hx hy dX6_readsPart_95 rfl (lv_at hl 5 rfl) ?_
            refine lv_iadd hx hy dX6_readsPart_96 ?_
            refine tI (nI_add (4 * mm) (w_)) ?_
            refine lv_aload_n hx hy dX6_readsPart_97 rfl (lv_at hl 3 rfl) ?_
            refine gX6_number F hI L_X6_160 dX6_readsPart_98 ?_
            refine tI (show _ = v85 40 5 from rfl) ?_
            refine aIsN F hI iX6_read (i := 4 * mm + w_) (by omega) (by decide) dX6_readsPart_101 (fun H locs hI => ?_)
            obtain ⟨c86, ec86⟩ : ∃ z9 : CF, z9 = up v85 49 (4 * mm + w_) (v85 40 5) := ⟨_, rfl⟩
            have hI : Iv E s H locs (c86, u.2) := by rw [ec86]; exact hI
            have kf87 : c86 40 4 = nI mm := by rw [ec86, up_at, if_neg (by omega)]; exact ((hnp.1 _ _ (by omega)).trans hm)
            refine lv_iload hx hy dX6_readsPart_102 (lv_at hl 0 rfl) ?_
            exact rZ hQ F (v := c86) rfl hI dX6_readsPart_104 (hnp.part0 hn9 ec86)
          · subst hr9
            refine tI (show _ = nI 1 from rfl) ?_
            refine lv_istore (lv' := [(5, .int (nI 1)), (4, .int (nI 1)), (3, .int (nI 0)), (0, .ref (eA E 48)), (1, .int (nI k)), (2, .int (nI w_))]) hx hy dX6_readsPart_83 hl (by decide) rfl (fun ls hl => ?_)
            refine lv_aload_n hx hy dX6_readsPart_85 rfl (lv_at hl 3 rfl) ?_
            refine gX6_read F hI L_X6_38 dX6_readsPart_86 ?_
            refine lv_iconst (v := nI 4) hx hy dX6_readsPart_89 (by decide) ?_
            refine lv_aload_n hx hy dX6_readsPart_90 rfl (lv_at hl 3 rfl) ?_
            refine gX6_readMany F hI L_X6_166 dX6_readsPart_91 ?_
            refine tI (show _ = v85 40 4 from rfl) ?_
            refine tI ((hnp.1 _ _ (by omega)).trans hm) ?_
            refine lv_imul hx hy dX6_readsPart_94 ?_
            refine tI (pk_mul (4) (mm)) ?_
            refine lv_iload_n hx hy dX6_readsPart_95 rfl (lv_at hl 5 rfl) ?_
            refine lv_iadd hx hy dX6_readsPart_96 ?_
            refine tI (nI_add (4 * mm) (w_)) ?_
            refine lv_aload_n hx hy dX6_readsPart_97 rfl (lv_at hl 3 rfl) ?_
            refine gX6_number F hI L_X6_160 dX6_readsPart_98 ?_
            refine tI (show _ = v85 40 5 from rfl) ?_
            refine tI h59 ?_
            refine aIsN F hI iX6_read (i := 4 * mm + w_) (by omega) (by decide) dX6_readsPart_101 (fun H locs hI => ?_)
            obtain ⟨c88, ec88⟩ : ∃ z9 : CF, z9 = up v85 49 (4 * mm + w_) (nI nv) := ⟨_, rfl⟩
            have hI : Iv E s H locs (c88, u.2) := by rw [ec88]; exact hI
            have kf89 : c88 40 4 = nI mm := by rw [ec88, up_at, if_neg (by omega)]; exact ((hnp.1 _ _ (by omega)).trans hm)
            have kf90 : c88 40 5 = nI nv := by rw [ec88, up_at, if_neg (by omega)]; exact h59
            refine lv_iload hx hy dX6_readsPart_102 (lv_at hl 0 rfl) ?_
            exact rZ hQ F (v := c88) rfl hI dX6_readsPart_104 (hnp.part1 hn9 ec88)
    · have h46 : w_ = 2 := (nI_eq (a := w_) (b := 2) (by omega) (by omega)).mp h46
      refine lv_iconst (v := nI 1) hx hy dX6_readsPart_11 (by decide) ?_
      refine lv_goto (tgt := 16) hx hy dX6_readsPart_12 (by decide) ?_
      refine lv_istore_n (lv' := [(3, .int (nI 1)), (0, .ref (eA E 48)), (1, .int (nI k)), (2, .int (nI w_))]) hx hy dX6_readsPart_16 rfl hl (by decide) rfl (fun ls hl => ?_)
      refine lv_iload_n hx hy dX6_readsPart_17 rfl (lv_at hl 2 rfl) ?_
      refine lv_if_ne (tgt := 30) hx hy dX6_readsPart_18 (by decide) (fun h91 => ?_) (fun h91 => ?_)
      · have h91 : k ≠ 0 := fun q9 => h91 ((nI_eq (a := k) (b := 0) (by omega) (by omega)).mpr q9)
        refine lv_iconst (v := nI 0) hx hy dX6_readsPart_30 (by decide) ?_
        refine lv_istore (lv' := [(4, .int (nI 0)), (3, .int (nI 1)), (0, .ref (eA E 48)), (1, .int (nI k)), (2, .int (nI w_))]) hx hy dX6_readsPart_31 hl (by decide) rfl (fun ls hl => ?_)
        refine lv_aload_n hx hy dX6_readsPart_33 rfl (lv_at hl 2 rfl) ?_
        refine lv_iload_n hx hy dX6_readsPart_34 rfl (lv_at hl 1 rfl) ?_
        refine lv_if_ne (tgt := 43) hx hy dX6_readsPart_35 (by decide) (fun _ => ?_) (fun q => absurd q (by decide))
        refine lv_iconst (v := nI 1) hx hy dX6_readsPart_43 (by decide) ?_
        refine lv_goto (tgt := 48) hx hy dX6_readsPart_44 (by decide) ?_
        refine lv_iload_n hx hy dX6_readsPart_48 rfl (lv_at hl 1 rfl) ?_
        refine lv_if_eq (tgt := 57) hx hy dX6_readsPart_49 (by decide) (fun q => absurd q (by decide)) (fun _ => ?_)
        refine lv_bipush (v := nI 60) hx hy dX6_readsPart_52 (by decide) ?_
        refine lv_goto (tgt := 80) hx hy dX6_readsPart_54 (by decide) ?_
        refine zI hI (xV F hI hl (kX6_readsNumber l E (u) hT 1 60 (by decide) (by decide) (by decide)) M_X6_163 (rX6 F hI) rfl ⟨Nat.le_of_ble_eq_true rfl, Nat.le_of_ble_eq_true rfl⟩ ⟨Nat.zero_le _, Nat.zero_le _⟩ rfl (Nat.le_of_ble_eq_true rfl) dX6_readsPart_80) (fun r93 v94 H locs hI hp92 => ?_)
        have hq9 : loK k w_ = 1 ∧ hiK k w_ = 60 := by
          have h9 := lo_hiM k hk w_ hw4 hw1 hwn
          rw [← h9.1, ← h9.2]
          unfold loM hiM
          constructor <;> (repeat' split) <;> omega
        have hnp : NumP z (loK k w_) (hiK k w_) a u.1 r93 v94 := by rw [hq9.1, hq9.2]; exact hp92
        rcases hnp.2.2 with ⟨hn9, hr9⟩ | ⟨nv, hn9, hr9, h59⟩
        · subst hr9
          refine tI (show _ = nI 0 from rfl) ?_
          refine lv_istore (lv' := [(5, .int (nI 0)), (4, .int (nI 0)), (3, .int (nI 1)), (0, .ref (eA E 48)), (1, .int (nI k)), (2, .int (nI w_))]) hx hy dX6_readsPart_83 hl (by decide) rfl (fun ls hl => ?_)
          refine lv_aload_n hx hy dX6_readsPart_85 rfl (lv_at hl 3 rfl) ?_
          refine gX6_read F hI L_X6_38 dX6_readsPart_86 ?_
          refine lv_iconst (v := nI 4) hx hy dX6_readsPart_89 (by decide) ?_
          refine lv_aload_n hx hy dX6_readsPart_90 rfl (lv_at hl 3 rfl) ?_
          refine gX6_readMany F hI L_X6_166 dX6_readsPart_91 ?_
          refine tI (show _ = v94 40 4 from rfl) ?_
          refine tI ((hnp.1 _ _ (by omega)).trans hm) ?_
          refine lv_imul hx hy dX6_readsPart_94 ?_
          refine tI (pk_mul (4) (mm)) ?_
          refine lv_iload_n hx hy dX6_readsPart_95 rfl (lv_at hl 5 rfl) ?_
          refine lv_iadd hx hy dX6_readsPart_96 ?_
          refine tI (nI_add (4 * mm) (w_)) ?_
          refine lv_aload_n hx hy dX6_readsPart_97 rfl (lv_at hl 3 rfl) ?_
          refine gX6_number F hI L_X6_160 dX6_readsPart_98 ?_
          refine tI (show _ = v94 40 5 from rfl) ?_
          refine aIsN F hI iX6_read (i := 4 * mm + w_) (by omega) (by decide) dX6_readsPart_101 (fun H locs hI => ?_)
          obtain ⟨c95, ec95⟩ : ∃ z9 : CF, z9 = up v94 49 (4 * mm + w_) (v94 40 5) := ⟨_, rfl⟩
          have hI : Iv E s H locs (c95, u.2) := by rw [ec95]; exact hI
          have kf96 : c95 40 4 = nI mm := by rw [ec95, up_at, if_neg (by omega)]; exact ((hnp.1 _ _ (by omega)).trans hm)
          refine lv_iload hx hy dX6_readsPart_102 (lv_at hl 0 rfl) ?_
          exact rZ hQ F (v := c95) rfl hI dX6_readsPart_104 (hnp.part0 hn9 ec95)
        · subst hr9
          refine tI (show _ = nI 1 from rfl) ?_
          refine lv_istore (lv' := [(5, .int (nI 1)), (4, .int (nI 0)), (3, .int (nI 1)), (0, .ref (eA E 48)), (1, .int (nI k)), (2, .int (nI w_))]) hx hy dX6_readsPart_83 hl (by decide) rfl (fun ls hl => ?_)
          refine lv_aload_n hx hy dX6_readsPart_85 rfl (lv_at hl 3 rfl) ?_
          refine gX6_read F hI L_X6_38 dX6_readsPart_86 ?_
          refine lv_iconst (v := nI 4) hx hy dX6_readsPart_89 (by decide) ?_
          refine lv_aload_n hx hy dX6_readsPart_90 rfl (lv_at hl 3 rfl) ?_
          refine gX6_readMany F hI L_X6_166 dX6_readsPart_91 ?_
          refine tI (show _ = v94 40 4 from rfl) ?_
          refine tI ((hnp.1 _ _ (by omega)).trans hm) ?_
          refine lv_imul hx hy dX6_readsPart_94 ?_
          refine tI (pk_mul (4) (mm)) ?_
          refine lv_iload_n hx hy dX6_readsPart_95 rfl (lv_at hl 5 rfl) ?_
          refine lv_iadd hx hy dX6_readsPart_96 ?_
          refine tI (nI_add (4 * mm) (w_)) ?_
          refine lv_aload_n hx hy dX6_readsPart_97 rfl (lv_at hl 3 rfl) ?_
          refine gX6_number F hI L_X6_160 dX6_readsPart_98 ?_
          refine tI (show _ = v94 40 5 from rfl) ?_
          refine tI h59 ?_
          refine aIsN F hI iX6_read (i := 4 * mm + w_) (by omega) (by decide) dX6_readsPart_101 (fun H locs hI => ?_)
          obtain ⟨c97, ec97⟩ : ∃ z9 : CF, z9 = up v94 49 (4 * mm + w_) (nI nv) := ⟨_, rfl⟩
          have hI : Iv E s H locs (c97, u.2) := by rw [ec97]; exact hI
          have kf98 : c97 40 4 = nI mm := by rw [ec97, up_at, if_neg (by omega)]; exact ((hnp.1 _ _ (by omega)).trans hm)
          have kf99 : c97 40 5 = nI nv := by rw [ec97, up_at, if_neg (by omega)]; exact h59
          refine lv_iload hx hy dX6_readsPart_102 (lv_at hl 0 rfl) ?_
          exact rZ hQ F (v := c97) rfl hI dX6_readsPart_104 (hnp.part1 hn9 ec97)
      · have h91 : k = 0 := (nI_eq (a := k) (b := 0) (by omega) (by omega)).mp h91
        refine lv_iload_n hx hy dX6_readsPart_21 rfl (lv_at hl 3 rfl) ?_
        refine lv_iconst (v := nI 2) hx hy dX6_readsPart_22 (by decide) ?_
        refine lv_icmp_ne (tgt := 30) hx hy dX6_readsPart_23 (by decide) (fun h100 => ?_) (fun h100 => ?_)
        · have h100 : w_ ≠ 2 := fun q9 => h100 ((nI_eq (a := w_) (b := 2) (by omega) (by omega)).mpr q9)
          refine lv_iconst (v := nI 0) hx hy dX6_readsPart_30 (by decide) ?_
          refine lv_istore (lv' := [(4, .int (nI 0)), (3, .int (nI 1)), (0, .ref (eA E 48)), (1, .int (nI k)), (2, .int (nI w_))]) hx hy dX6_readsPart_31 hl (by decide) rfl (fun ls hl => ?_)
          refine lv_aload_n hx hy dX6_readsPart_33 rfl (lv_at hl 2 rfl) ?_
          refine lv_iload_n hx hy dX6_readsPart_34 rfl (lv_at hl 1 rfl) ?_
          refine lv_if_ne (tgt := 43) hx hy dX6_readsPart_35 (by decide) (fun _ => ?_) (fun q => absurd q (by decide))
          refine lv_iconst (v := nI 1) hx hy dX6_readsPart_43 (by decide) ?_
          refine lv_goto (tgt := 48) hx hy dX6_readsPart_44 (by decide) ?_
          refine lv_iload_n hx hy dX6_readsPart_48 rfl (lv_at hl 1 rfl) ?_
          refine lv_if_eq (tgt := 57) hx hy dX6_readsPart_49 (by decide) (fun q => absurd q (by decide)) (fun _ => ?_)
          refine lv_bipush (v := nI 60) hx hy dX6_readsPart_52 (by decide) ?_
          refine lv_goto (tgt := 80) hx hy dX6_readsPart_54 (by decide) ?_
          refine zI hI (xV F hI hl (kX6_readsNumber l E (u) hT 1 60 (by decide) (by decide) (by decide)) M_X6_163 (rX6 F hI) rfl ⟨Nat.le_of_ble_eq_true rfl, Nat.le_of_ble_eq_true rfl⟩ ⟨Nat.zero_le _, Nat.zero_le _⟩ rfl (Nat.le_of_ble_eq_true rfl) dX6_readsPart_80) (fun r102 v103 H locs hI hp101 => ?_)
          have hq9 : loK k w_ = 1 ∧ hiK k w_ = 60 := by
            have h9 := lo_hiM k hk w_ hw4 hw1 hwn
            rw [← h9.1, ← h9.2]
            unfold loM hiM
            constructor <;> (repeat' split) <;> omega
          have hnp : NumP z (loK k w_) (hiK k w_) a u.1 r102 v103 := by rw [hq9.1, hq9.2]; exact hp101
          rcases hnp.2.2 with ⟨hn9, hr9⟩ | ⟨nv, hn9, hr9, h59⟩
          · subst hr9
            refine tI (show _ = nI 0 from rfl) ?_
            refine lv_istore (lv' := [(5, .int (nI 0)), (4, .int (nI 0)), (3, .int (nI 1)), (0, .ref (eA E 48)), (1, .int (nI k)), (2, .int (nI w_))]) hx hy dX6_readsPart_83 hl (by decide) rfl (fun ls hl => ?_)
            refine lv_aload_n hx hy dX6_readsPart_85 rfl (lv_at hl 3 rfl) ?_
            refine gX6_read F hI L_X6_38 dX6_readsPart_86 ?_
            refine lv_iconst (v := nI 4) hx hy dX6_readsPart_89 (by decide) ?_
            refine lv_aload_n hx hy dX6_readsPart_90 rfl (lv_at hl 3 rfl) ?_
            refine gX6_readMany F hI L_X6_166 dX6_readsPart_91 ?_
            refine tI (show _ = v103 40 4 from rfl) ?_
            refine tI ((hnp.1 _ _ (by omega)).trans hm) ?_
            refine lv_imul hx hy dX6_readsPart_94 ?_
            refine tI (pk_mul (4) (mm)) ?_
            refine lv_iload_n hx hy dX6_readsPart_95 rfl (lv_at hl 5 rfl) ?_
            refine lv_iadd hx hy dX6_readsPart_96 ?_
            refine tI (nI_add (4 * mm) (w_)) ?_
            refine lv_aload_n hx hy dX6_readsPart_97 rfl (lv_at hl 3 rfl) ?_
            refine gX6_number F hI L_X6_160 dX6_readsPart_98 ?_
            refine tI (show _ = v103 40 5 from rfl) ?_
            refine aIsN F hI iX6_read (i := 4 * mm + w_) (by omega) (by decide) dX6_readsPart_101 (fun H locs hI => ?_)
            obtain ⟨c104, ec104⟩ : ∃ z9 : CF, z9 = up v103 49 (4 * mm + w_) (v103 40 5) := ⟨_, rfl⟩
            have hI : Iv E s H locs (c104, u.2) := by rw [ec104]; exact hI
            have kf105 : c104 40 4 = nI mm := by rw [ec104, up_at, if_neg (by omega)]; exact ((hnp.1 _ _ (by omega)).trans hm)
            refine lv_iload hx hy dX6_readsPart_102 (lv_at hl 0 rfl) ?_
            exact rZ hQ F (v := c104) rfl hI dX6_readsPart_104 (hnp.part0 hn9 ec104)
          · subst hr9
            refine tI (show _ = nI 1 from rfl) ?_
            refine lv_istore (lv' := [(5, .int (nI 1)), (4, .int (nI 0)), (3, .int (nI 1)), (0, .ref (eA E 48)), (1, .int (nI k)), (2, .int (nI w_))]) hx hy dX6_readsPart_83 hl (by decide) rfl (fun ls hl => ?_)
            refine lv_aload_n hx hy dX6_readsPart_85 rfl (lv_at hl 3 rfl) ?_
            refine gX6_read F hI L_X6_38 dX6_readsPart_86 ?_
            refine lv_iconst (v := nI 4) hx hy dX6_readsPart_89 (by decide) ?_
            refine lv_aload_n hx hy dX6_readsPart_90 rfl (lv_at hl 3 rfl) ?_
            refine gX6_readMany F hI L_X6_166 dX6_readsPart_91 ?_
            refine tI (show _ = v103 40 4 from rfl) ?_
            refine tI ((hnp.1 _ _ (by omega)).trans hm) ?_
            refine lv_imul hx hy dX6_readsPart_94 ?_
            refine tI (pk_mul (4) (mm)) ?_
            refine lv_iload_n hx hy dX6_readsPart_95 rfl (lv_at hl 5 rfl) ?_
            refine lv_iadd hx hy dX6_readsPart_96 ?_
            refine tI (nI_add (4 * mm) (w_)) ?_
            refine lv_aload_n hx hy dX6_readsPart_97 rfl (lv_at hl 3 rfl) ?_
            refine gX6_number F hI L_X6_160 dX6_readsPart_98 ?_
            refine tI (show _ = v103 40 5 from rfl) ?_
            refine tI h59 ?_
            refine aIsN F hI iX6_read (i := 4 * mm + w_) (by omega) (by decide) dX6_readsPart_101 (fun H locs hI => ?_)
            obtain ⟨c106, ec106⟩ : ∃ z9 : CF, z9 = up v103 49 (4 * mm + w_) (nI nv) := ⟨_, rfl⟩
            have hI : Iv E s H locs (c106, u.2) := by rw [ec106]; exact hI
            have kf107 : c106 40 4 = nI mm := by rw [ec106, up_at, if_neg (by omega)]; exact ((hnp.1 _ _ (by omega)).trans hm)
            have kf108 : c106 40 5 = nI nv := by rw [ec106, up_at, if_neg (by omega)]; exact h59
            refine lv_iload hx hy dX6_readsPart_102 (lv_at hl 0 rfl) ?_
            exact rZ hQ F (v := c106) rfl hI dX6_readsPart_104 (hnp.part1 hn9 ec106)
        · have h100 : w_ = 2 := (nI_eq (a := w_) (b := 2) (by omega) (by omega)).mp h100
          refine lv_iconst (v := nI 1) hx hy dX6_readsPart_26 (by decide) ?_
          refine lv_goto (tgt := 31) hx hy dX6_readsPart_27 (by decide) ?_
          refine lv_istore (lv' := [(4, .int (nI 1)), (3, .int (nI 1)), (0, .ref (eA E 48)), (1, .int (nI k)), (2, .int (nI w_))]) hx hy dX6_readsPart_31 hl (by decide) rfl (fun ls hl => ?_)
          refine lv_aload_n hx hy dX6_readsPart_33 rfl (lv_at hl 2 rfl) ?_
          refine lv_iload_n hx hy dX6_readsPart_34 rfl (lv_at hl 1 rfl) ?_
          refine lv_if_ne (tgt := 43) hx hy dX6_readsPart_35 (by decide) (fun _ => ?_) (fun q => absurd q (by decide))
          refine lv_iconst (v := nI 1) hx hy dX6_readsPart_43 (by decide) ?_
          refine lv_goto (tgt := 48) hx hy dX6_readsPart_44 (by decide) ?_
          refine lv_iload_n hx hy dX6_readsPart_48 rfl (lv_at hl 1 rfl) ?_
          refine lv_if_eq (tgt := 57) hx hy dX6_readsPart_49 (by decide) (fun q => absurd q (by decide)) (fun _ => ?_)
          refine lv_bipush (v := nI 60) hx hy dX6_readsPart_52 (by decide) ?_
          refine lv_goto (tgt := 80) hx hy dX6_readsPart_54 (by decide) ?_
          refine zI hI (xV F hI hl (kX6_readsNumber l E (u) hT 1 60 (by decide) (by decide) (by decide)) M_X6_163 (rX6 F hI) rfl ⟨Nat.le_of_ble_eq_true rfl, Nat.le_of_ble_eq_true rfl⟩ ⟨Nat.zero_le _, Nat.zero_le _⟩ rfl (Nat.le_of_ble_eq_true rfl) dX6_readsPart_80) (fun r110 v111 H locs hI hp109 => ?_)
          have hq9 : loK k w_ = 1 ∧ hiK k w_ = 60 := by
            have h9 := lo_hiM k hk w_ hw4 hw1 hwn
            rw [← h9.1, ← h9.2]
            unfold loM hiM
            constructor <;> (repeat' split) <;> omega
          have hnp : NumP z (loK k w_) (hiK k w_) a u.1 r110 v111 := by rw [hq9.1, hq9.2]; exact hp109
          rcases hnp.2.2 with ⟨hn9, hr9⟩ | ⟨nv, hn9, hr9, h59⟩
          · subst hr9
            refine tI (show _ = nI 0 from rfl) ?_
            refine lv_istore (lv' := [(5, .int (nI 0)), (4, .int (nI 1)), (3, .int (nI 1)), (0, .ref (eA E 48)), (1, .int (nI k)), (2, .int (nI w_))]) hx hy dX6_readsPart_83 hl (by decide) rfl (fun ls hl => ?_)
            refine lv_aload_n hx hy dX6_readsPart_85 rfl (lv_at hl 3 rfl) ?_
            refine gX6_read F hI L_X6_38 dX6_readsPart_86 ?_
            refine lv_iconst (v := nI 4) hx hy dX6_readsPart_89 (by decide) ?_
            refine lv_aload_n hx hy dX6_readsPart_90 rfl (lv_at hl 3 rfl) ?_
            refine gX6_readMany F hI L_X6_166 dX6_readsPart_91 ?_
            refine tI (show _ = v111 40 4 from rfl) ?_
            refine tI ((hnp.1 _ _ (by omega)).trans hm) ?_
            refine lv_imul hx hy dX6_readsPart_94 ?_
            refine tI (pk_mul (4) (mm)) ?_
            refine lv_iload_n hx hy dX6_readsPart_95 rfl (lv_at hl 5 rfl) ?_
            refine lv_iadd hx hy dX6_readsPart_96 ?_
            refine tI (nI_add (4 * mm) (w_)) ?_
            refine lv_aload_n hx hy dX6_readsPart_97 rfl (lv_at hl 3 rfl) ?_
            refine gX6_number F hI L_X6_160 dX6_readsPart_98 ?_
            refine tI (show _ = v111 40 5 from rfl) ?_
            refine aIsN F hI iX6_read (i := 4 * mm + w_) (by omega) (by decide) dX6_readsPart_101 (fun H locs hI => ?_)
            obtain ⟨c112, ec112⟩ : ∃ z9 : CF, z9 = up v111 49 (4 * mm + w_) (v111 40 5) := ⟨_, rfl⟩
            have hI : Iv E s H locs (c112, u.2) := by rw [ec112]; exact hI
            have kf113 : c112 40 4 = nI mm := by rw [ec112, up_at, if_neg (by omega)]; exact ((hnp.1 _ _ (by omega)).trans hm)
            refine lv_iload hx hy dX6_readsPart_102 (lv_at hl 0 rfl) ?_
            exact rZ hQ F (v := c112) rfl hI dX6_readsPart_104 (hnp.part0 hn9 ec112)
          · subst hr9
            refine tI (show _ = nI 1 from rfl) ?_
            refine lv_istore (lv' := [(5, .int (nI 1)), (4, .int (nI 1)), (3, .int (nI 1)), (0, .ref (eA E 48)), (1, .int (nI k)), (2, .int (nI w_))]) hx hy dX6_readsPart_83 hl (by decide) rfl (fun ls hl => ?_)
            refine lv_aload_n hx hy dX6_readsPart_85 rfl (lv_at hl 3 rfl) ?_
            refine gX6_read F hI L_X6_38 dX6_readsPart_86 ?_
            refine lv_iconst (v := nI 4) hx hy dX6_readsPart_89 (by decide) ?_
            refine lv_aload_n hx hy dX6_readsPart_90 rfl (lv_at hl 3 rfl) ?_
            refine gX6_readMany F hI L_X6_166 dX6_readsPart_91 ?_
            refine tI (show _ = v111 40 4 from rfl) ?_
            refine tI ((hnp.1 _ _ (by omega)).trans hm) ?_
            refine lv_imul hx hy dX6_readsPart_94 ?_
            refine tI (pk_mul (4) (mm)) ?_
            refine lv_iload_n hx hy dX6_readsPart_95 rfl (lv_at hl 5 rfl) ?_
            refine lv_iadd hx hy dX6_readsPart_96 ?_
            refine tI (nI_add (4 * mm) (w_)) ?_
            refine lv_aload_n hx hy dX6_readsPart_97 rfl (lv_at hl 3 rfl) ?_
            refine gX6_number F hI L_X6_160 dX6_readsPart_98 ?_
            refine tI (show _ = v111 40 5 from rfl) ?_
            refine tI h59 ?_
            refine aIsN F hI iX6_read (i := 4 * mm + w_) (by omega) (by decide) dX6_readsPart_101 (fun H locs hI => ?_)
            obtain ⟨c114, ec114⟩ : ∃ z9 : CF, z9 = up v111 49 (4 * mm + w_) (nI nv) := ⟨_, rfl⟩
            have hI : Iv E s H locs (c114, u.2) := by rw [ec114]; exact hI
            have kf115 : c114 40 4 = nI mm := by rw [ec114, up_at, if_neg (by omega)]; exact ((hnp.1 _ _ (by omega)).trans hm)
            have kf116 : c114 40 5 = nI nv := by rw [ec114, up_at, if_neg (by omega)]; exact h59
            refine lv_iload hx hy dX6_readsPart_102 (lv_at hl 0 rfl) ?_
            exact rZ hQ F (v := c114) rfl hI dX6_readsPart_104 (hnp.part1 hn9 ec114)
