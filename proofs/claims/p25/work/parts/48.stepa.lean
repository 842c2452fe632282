/-- what a step keeps -/
def P2 : Int32 → SS × SS → Prop := fun r v => r = 1 ∧ ∃ X Y, Rl X Y ∧ RepC v.1.1 X ∧ RepC v.2.1 Y
theorem pr_src (a b c d : Nat) : Pr (0, a, b, c) (0, a, b, d) := by
  unfold Pr
  simp
theorem pr_g12 {k : Nat} (hk : k = 1 ∨ k = 2) (i j c d : Nat) : Pr (k, i, j, c) (k, 2 * i, 2 * j, d) := by
  rcases hk with rfl | rfl <;> (unfold Pr; simp)
theorem pr_g3 (i j c d : Nat) : Pr (3, i, j, c) (3, 2 * i + 1, 2 * j + 1, d) := by
  unfold Pr
  simp
theorem pr_ch (i j k : Nat) : Pr (4, i, j, k) (4, 2 * j, 2 * i, 2 * k + 1) := by
  unfold Pr
  simp
theorem pr_tn (i a b c d : Nat) : Pr (5, i, a, b) (5, 2 * i, c, d) := by
  unfold Pr
  simp
theorem pr_dl (i t c d : Nat) : Pr (6, i, t, c) (6, 2 * i, t, d) := by
  unfold Pr
  simp
theorem Rl.gate9 {X Y : XS} {i j k n : Nat} (h : Rl X Y) (hn : X.1.1 = n) (h8 : n < 8) (hk : k = 1 ∨ k = 2) (hi : i < n) (hj : j < n) (hX : XOk (addS X (k, i, j, 0))) (hY : XOk (addS (addS Y (3 - k, 2 * i + 1, 2 * j + 1, 0)) (5, 2 * n, 0, 0))) : (∀ t, bt (addS (addS Y (3 - k, 2 * i + 1, 2 * j + 1, 0)) (5, 2 * n, 0, 0)).1.2.2 (2 * n) t = !bt (addS X (k, i, j, 0)).1.2.2 n t) ∧ ∀ t, bt (addS (addS Y (3 - k, 2 * i + 1, 2 * j + 1, 0)) (5, 2 * n, 0, 0)).1.2.2 (2 * n + 1) t = bt (addS X (k, i, j, 0)).1.2.2 n t := by
  subst hn
  exact h.gate h8 hk hi hj hX hY
theorem Rl.add9 {X Y : XS} {q r : Ln} {n : Nat} (h : Rl X Y) (hn : X.1.1 = n) (h8 : n < 8) (hp : Pr q r) (hX : XOk (addS X q)) (hY : XOk (addS (addS Y r) (5, 2 * n, 0, 0))) : Rl (addS X q) (addS (addS Y r) (5, 2 * n, 0, 0)) := by
  subst hn
  exact h.add h8 hp ⟨rfl, rfl⟩ hX hY
set_option maxHeartbeats 400000 in
set_option maxRecDepth 100000 in
theorem sg69 {p : Program} {l : Launch} {e : Env} {s : State} {m : MethodId} {args : Array Value} {below : List Frame} {meth : Method} {co : Code} {H : Heap} {locs : List Loc} {ls : Array Slot} {Q : State → Prop} {E0 E1 E2 : EV} {u w : SS} {X Y : XS} (hQ : MQ below (Q2 E0 E1 E2 P2) args s 0 0 (eR E0) = Q) (F : Fx E0 p s m args meth co cL_isStep 13 RL (some .boolean)) (hT : Two E0 E1 E2) (hI : Iv2 E0 E1 E2 s H locs u w) (hCa : RepC u.1 X) (hCb : RepC w.1 Y) (hR : Rl X Y) (x y z : Int32) (n i j k : Nat) (hn : X.1.1 = n) (hi : i < n + 1) (hj : j < n + 1) (hk3 : k < n + 1) (hn8 : n = 8) (hl : lv_has ls 13 [(0, .ref (eA E1 0)), (1, .ref (eA E2 0)), (2, .int (x)), (3, .int (y)), (4, .int (nI n)), (5, .int (z)), (6, .int (nI i)), (7, .int (nI j)), (8, .int (nI k))]) : W p l e (Rm 9 221) s m args below meth co H locs 0 0 Q (F0 m 69 ls []) := by
  have hx := F.1
  have hy := F.2.1
  have hXa := hR.1
  have hXb := hR.2.1
  have h8 := hR.2.2.1
  have hYn := hR.2.2.2.1
  have hYl := hR.2.2.2.2.1
  have hl1 := hXa.1.2.1
  have hl2 := hXa.1.2.2.1
  refine lv_aload_n hx hy dL_isStep_69 rfl (lv_at hl 0 rfl) ?_
  refine za hT hI (xVa F hT hI hl (kX5_removeLast l E1 u (X := X) hCa hXa ) M_L_21 (rX5a F hT hI) rfl ⟨Nat.le_of_ble_eq_true rfl, Nat.le_of_ble_eq_true rfl⟩ ⟨Nat.zero_le _, Nat.zero_le _⟩ rfl (Nat.le_of_ble_eq_true rfl) dL_isStep_70) (fun r2 v3 H locs hI hp1 => ?_)
  obtain ⟨hq4, hC5, hX6⟩ := t_removeLast (m := 7) hp1 hXa (by first | omega | (simp only [addS_n, dropS_n]; omega))
  refine tI (show _ = nI 7 from hq4) ?_
  refine lv_bipush (v := nI 7) hx hy dL_isStep_73 (by decide) ?_
  refine lv_icmp_ne (tgt := 100) hx hy dL_isStep_75 (by decide) (fun q => absurd q (by decide)) (fun _ => ?_)
  refine lv_aload_n hx hy dL_isStep_78 rfl (lv_at hl 1 rfl) ?_
  refine zb hT hI (xVb F hT hI hl (kX5_removeLast l E2 w (X := Y) hCb hXb ) M_L_21 (rX5b F hT hI) rfl ⟨Nat.le_of_ble_eq_true rfl, Nat.le_of_ble_eq_true rfl⟩ ⟨Nat.zero_le _, Nat.zero_le _⟩ rfl (Nat.le_of_ble_eq_true rfl) dL_isStep_79) (fun r8 v9 H locs hI hp7 => ?_)
  obtain ⟨hq10, hC11, hX12⟩ := t_removeLast (m := 15) hp7 hXb (by first | omega | (simp only [addS_n, dropS_n]; omega))
  refine tI (show _ = nI 15 from hq10) ?_
  refine lv_bipush (v := nI 15) hx hy dL_isStep_82 (by decide) ?_
  refine lv_icmp_ne (tgt := 100) hx hy dL_isStep_84 (by decide) (fun q => absurd q (by decide)) (fun _ => ?_)
  refine lv_aload_n hx hy dL_isStep_87 rfl (lv_at hl 1 rfl) ?_
  refine zb hT hI (xVb F hT hI hl (kX5_removeLast l E2 v9 (X := (dropS Y)) hC11 hX12 ) M_L_21 (rX5b F hT hI) rfl ⟨Nat.le_of_ble_eq_true rfl, Nat.le_of_ble_eq_true rfl⟩ ⟨Nat.zero_le _, Nat.zero_le _⟩ rfl (Nat.le_of_ble_eq_true rfl) dL_isStep_88) (fun r14 v15 H locs hI hp13 => ?_)
  obtain ⟨hq16, hC17, hX18⟩ := t_removeLast (m := 14) hp13 hX12 (by first | omega | (simp only [addS_n, dropS_n]; omega))
  refine tI (show _ = nI 14 from hq16) ?_
  refine lv_bipush (v := nI 14) hx hy dL_isStep_91 (by decide) ?_
  refine lv_icmp_ne (tgt := 100) hx hy dL_isStep_93 (by decide) (fun q => absurd q (by decide)) (fun _ => ?_)
  refine lv_iconst (v := nI 1) hx hy dL_isStep_96 (by decide) ?_
  refine lv_goto (tgt := 101) hx hy dL_isStep_97 (by decide) ?_
  exact rZ2 hQ F rfl hI dL_isStep_101 ⟨rfl, _, _, hR.drop (by omega) hX6 hX18, hC5, hC17⟩
set_option maxHeartbeats 400000 in
set_option maxRecDepth 100000 in
theorem sg164 {p : Program} {l : Launch} {e : Env} {s : State} {m : MethodId} {args : Array Value} {below : List Frame} {meth : Method} {co : Code} {H : Heap} {locs : List Loc} {ls : Array Slot} {Q : State → Prop} {E0 E1 E2 : EV} {u w : SS} {X Y : XS} (hQ : MQ below (Q2 E0 E1 E2 P2) args s 0 0 (eR E0) = Q) (F : Fx E0 p s m args meth co cL_isStep 13 RL (some .boolean)) (hT : Two E0 E1 E2) (hI : Iv2 E0 E1 E2 s H locs u w) (hCa : RepC u.1 X) (hCb : RepC w.1 Y) (hR : Rl X Y) (x y z : Int32) (n i j k : Nat) (hn : X.1.1 = n) (hi : i < n + 1) (hj : j < n + 1) (hk3 : k < n + 1) (hlt : n < 8) (hl : lv_has ls 13 [(0, .ref (eA E1 0)), (1, .ref (eA E2 0)), (2, .int (x)), (3, .int (y)), (4, .int (nI n)), (5, .int (z)), (6, .int (nI i)), (7, .int (nI j)), (8, .int (nI k))]) : W p l e (Rm 9 221) s m args below meth co H locs 0 0 Q (F0 m 164 ls []) := by
  have hx := F.1
  have hy := F.2.1
  have hXa := hR.1
  have hXb := hR.2.1
  have h8 := hR.2.2.1
  have hYn := hR.2.2.2.1
  have hYl := hR.2.2.2.2.1
  have hl1 := hXa.1.2.1
  have hl2 := hXa.1.2.2.1
  refine lv_iload hx hy dL_isStep_164 (lv_at hl 5 rfl) ?_
  refine lv_sipush (v := nI 257) hx hy dL_isStep_166 (by decide) ?_
  refine za hT hI (xSa F hT hI hl (kL_up l E1 u z 257 (by omega) (by omega)) M_L_15 rfl ⟨Nat.le_of_ble_eq_true rfl, Nat.le_of_ble_eq_true rfl⟩ ⟨Nat.zero_le _, Nat.zero_le _⟩ rfl (Nat.le_of_ble_eq_true rfl) dL_isStep_169) (fun r2 v3 H locs hI hp1 => ?_)
  obtain ⟨a, ha, hp1⟩ := hp1
  subst hp1
  have hI : Iv2 E0 E1 E2 s H locs u w := hI
  refine lv_istore (lv' := [(10, .int (nI a)), (0, .ref (eA E1 0)), (1, .ref (eA E2 0)), (2, .int (x)), (3, .int (y)), (4, .int (nI n)), (5, .int (z)), (6, .int (nI i)), (7, .int (nI j)), (8, .int (nI k))]) hx hy dL_isStep_172 hl (by decide) rfl (fun ls hl => ?_)
  refine lv_iconst (v := nI 1) hx hy dL_isStep_174 (by decide) ?_
  refine lv_iload_n hx hy dL_isStep_175 rfl (lv_at hl 4 rfl) ?_
  refine lv_sipush (v := nI 255) hx hy dL_isStep_176 (by decide) ?_
  refine za hT hI (xSa F hT hI hl (kL_up l E1 u y 255 (by omega) (by omega)) M_L_15 rfl ⟨Nat.le_of_ble_eq_true rfl, Nat.le_of_ble_eq_true rfl⟩ ⟨Nat.zero_le _, Nat.zero_le _⟩ rfl (Nat.le_of_ble_eq_true rfl) dL_isStep_179) (fun r5 v6 H locs hI hp4 => ?_)
  obtain ⟨b, hb, hp4⟩ := hp4
  subst hp4
  have hI : Iv2 E0 E1 E2 s H locs u w := hI
  refine lv_iadd hx hy dL_isStep_182 ?_
  refine tI (nI_add (1) (b)) ?_
  refine lv_istore (lv' := [(11, .int (nI (1 + b))), (10, .int (nI a)), (0, .ref (eA E1 0)), (1, .ref (eA E2 0)), (2, .int (x)), (3, .int (y)), (4, .int (nI n)), (5, .int (z)), (6, .int (nI i)), (7, .int (nI j)), (8, .int (nI k))]) hx hy dL_isStep_183 hl (by decide) rfl (fun ls hl => ?_)
  refine lv_aload_n hx hy dL_isStep_185 rfl (lv_at hl 2 rfl) ?_
  refine lv_iload hx hy dL_isStep_186 (lv_at hl 1 rfl) ?_
  refine lv_iload hx hy dL_isStep_188 (lv_at hl 0 rfl) ?_
  refine za hT hI (xVa F hT hI hl (kX5_source l E1 u (X := X) hCa hXa (nI a) (nI (1 + b))) M_L_25 (rX5a F hT hI) rfl ⟨Nat.le_of_ble_eq_true rfl, Nat.le_of_ble_eq_true rfl⟩ ⟨Nat.zero_le _, Nat.zero_le _⟩ rfl (Nat.le_of_ble_eq_true rfl) dL_isStep_190) (fun r8 v9 H locs hI hp7 => ?_)
  obtain ⟨hq10, hC11, hX12⟩ := t_source (m := n) hp7 hXa (by first | omega | (simp only [addS_n, dropS_n]; omega)) (by omega) (by omega) (by omega) (by omega)
  refine tI (show _ = nI n from hq10) ?_
  refine lv_iload hx hy dL_isStep_193 (lv_at hl 6 rfl) ?_
  refine lv_icmp_ne (tgt := 234) hx hy dL_isStep_195 (by decide) (fun q => absurd rfl q) (fun h13 => ?_)
  refine lv_aload_n hx hy dL_isStep_198 rfl (lv_at hl 3 rfl) ?_
  refine lv_iload hx hy dL_isStep_199 (lv_at hl 1 rfl) ?_
  refine lv_iload hx hy dL_isStep_201 (lv_at hl 0 rfl) ?_
  refine zb hT hI (xVb F hT hI hl (kX5_source l E2 w (X := Y) hCb hXb (nI a) (nI (1 + b))) M_L_25 (rX5b F hT hI) rfl ⟨Nat.le_of_ble_eq_true rfl, Nat.le_of_ble_eq_true rfl⟩ ⟨Nat.zero_le _, Nat.zero_le _⟩ rfl (Nat.le_of_ble_eq_true rfl) dL_isStep_203) (fun r15 v16 H locs hI hp14 => ?_)
  obtain ⟨hq17, hC18, hX19⟩ := t_source (m := 2 * n) hp14 hXb (by first | omega | (simp only [addS_n, dropS_n]; omega)) (by omega) (by omega) (by omega) (by omega)
  refine tI (show _ = nI (2 * n) from hq17) ?_
  refine lv_iconst (v := nI 2) hx hy dL_isStep_206 (by decide) ?_
  refine lv_iload hx hy dL_isStep_207 (lv_at hl 6 rfl) ?_
  refine lv_imul hx hy dL_isStep_209 ?_
  refine tI (pk_mul (2) (n)) ?_
  refine lv_icmp_ne (tgt := 234) hx hy dL_isStep_210 (by decide) (fun q => absurd rfl q) (fun h20 => ?_)
  refine lv_aload_n hx hy dL_isStep_213 rfl (lv_at hl 3 rfl) ?_
  refine lv_iconst (v := nI 2) hx hy dL_isStep_214 (by decide) ?_
  refine lv_iload hx hy dL_isStep_215 (lv_at hl 6 rfl) ?_
  refine lv_imul hx hy dL_isStep_217 ?_
  refine tI (pk_mul (2) (n)) ?_
  refine zb hT hI (xVb F hT hI hl (kX5_turn l E2 v16 (X := (addS Y (0, a, 1 + b, 0))) hC18 hX19 (nI (2 * n))) M_L_28 (rX5b F hT hI) rfl ⟨Nat.le_of_ble_eq_true rfl, Nat.le_of_ble_eq_true rfl⟩ ⟨Nat.zero_le _, Nat.zero_le _⟩ rfl (Nat.le_of_ble_eq_true rfl) dL_isStep_218) (fun r22 v23 H locs hI hp21 => ?_)
  obtain ⟨hq24, hC25, hX26⟩ := t_turn (m := 2 * n + 1) hp21 hX19 (by first | omega | (simp only [addS_n, dropS_n]; omega)) (by omega) (by omega)
  refine tI (show _ = nI (2 * n + 1) from hq24) ?_
  refine lv_iconst (v := nI 2) hx hy dL_isStep_221 (by decide) ?_
  refine lv_iload hx hy dL_isStep_222 (lv_at hl 6 rfl) ?_
  refine lv_imul hx hy dL_isStep_224 ?_
  refine tI (pk_mul (2) (n)) ?_
  refine lv_iconst (v := nI 1) hx hy dL_isStep_225 (by decide) ?_
  refine lv_iadd hx hy dL_isStep_226 ?_
  refine tI (nI_add (2 * n) (1)) ?_
  refine lv_icmp_ne (tgt := 234) hx hy dL_isStep_227 (by decide) (fun q => absurd rfl q) (fun h27 => ?_)
  refine lv_iconst (v := nI 1) hx hy dL_isStep_230 (by decide) ?_
  refine lv_goto (tgt := 235) hx hy dL_isStep_231 (by decide) ?_
  exact rZ2 hQ F rfl hI dL_isStep_235 ⟨rfl, _, _, hR.add9 hn (by omega) (pr_src _ _ _ _) hX12 hX26, hC11, hC25⟩
