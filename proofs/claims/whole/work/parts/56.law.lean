set_option maxHeartbeats 4000000 in
set_option maxRecDepth 100000 in
theorem law_loop {p : Program} {l : Launch} {e : Env} {s : State} {m : MethodId} {args : Array Value} {below : List Frame} {meth : Method} {co : Code} {Q : State → Prop} {E : EV} {b L cl sl : Nat} {xs : Nat → Int32} (F : Fx E p s m args meth co cL_law 4 RL (some .boolean)) (hB : Scp E s b L xs) (hcl : cl ≤ 600000) (hsl : sl ≤ 7302250) (hret : ∀ (H : Heap) (locs : List Loc) (ls : Array Slot) (pc : Nat), va_S (eR E) s.heap H locs → decode cL_law pc = .ok (.ireturn, 1) → W p l e room_1 s m args below meth co H locs cl sl Q (F0 m pc ls [.int (nI 1)])) {u : SS} {X : XS} (h0 : RepS u X) {H : Heap} {locs : List Loc} {ls : Array Slot} (hI : Iv E s H locs u) (hl : lv_has ls 4 [(3, .int (nI 0)), (0, .ref b), (1, .ref (eA E 0)), (2, .ref (eA E 48))]) : W p l e room_1 s m args below meth co H locs cl sl Q (F0 m 18 ls []) := by
  have hx := F.1
  have hy := F.2.1
  have hL := hB.2.2.2
  have lp1 : ∀ (fu : Nat) (i : Nat) (wv : SS) (Xv : XS), (i ≤ L) → (L - i < fu) → (RepS wv Xv) →  ∀ (H : Heap) (locs : List Loc) (ls : Array Slot), Iv E s H locs (wv) → lv_has ls 4 [(3, .int (nI i)), (0, .ref (b)), (1, .ref (eA E 0)), (2, .ref (eA E 48))] → W p l e room_1 s m args below meth co H locs cl sl Q (F0 m 18 ls []) := by
    intro fu
    induction fu with
    | zero => intro i wv Xv hiL hf hRS; exact absurd hf (Nat.not_lt_zero _)
    | succ fu ih =>
      intro i wv Xv hiL hf hRS H locs ls hI hl
      have ih_18 := ih
      refine lv_iload_n hx hy dL_law_18 rfl (lv_at hl 0 rfl) ?_
      refine lv_aload_n hx hy dL_law_19 rfl (lv_at hl 1 rfl) ?_
      refine snL F hI hB dL_law_20 ?_
      refine lv_iconst (v := nI 4) hx hy dL_law_21 (by decide) ?_
      refine lv_isub hx hy dL_law_22 ?_
      refine lv_icmp_gt (tgt := 740) hx hy dL_law_23 (by decide) (fun h2 => ?_) (fun h2 => ?_)
      · refine lv_iconst (v := nI 1) hx hy dL_law_740 (by decide) ?_
        exact hret H locs ls _ hI.2 dL_law_741
      · have hi4 := more_no hL hiL h2
        refine lv_aload_n hx hy dL_law_26 rfl (lv_at hl 1 rfl) ?_
        refine lv_iload_n hx hy dL_law_27 rfl (lv_at hl 0 rfl) ?_
        refine slN F hI hB (i := i) (by omega) dL_law_28 ?_
        refine lv_bipush (v := nI 31) hx hy dL_law_29 (by decide) ?_
        refine lv_iand hx hy dL_law_31 ?_
        obtain ⟨nn, hn32, hnn⟩ := and31 (xs i)
        refine tI hnn ?_
        rcases (show nn = 0 ∨ nn = 1 ∨ nn = 2 ∨ nn = 3 ∨ nn = 4 ∨ nn = 5 ∨ nn = 6 ∨ nn = 7 ∨ nn = 8 ∨ nn = 9 ∨ nn = 10 ∨ nn = 11 ∨ nn = 12 ∨ nn = 13 ∨ nn = 14 ∨ nn = 15 ∨ nn = 16 ∨ nn = 17 ∨ nn = 18 ∨ nn = 19 ∨ nn = 20 ∨ nn = 21 ∨ 22 ≤ nn by omega) with rfl | rfl | rfl | rfl | rfl | rfl | rfl | rfl | rfl | rfl | rfl | rfl | rfl | rfl | rfl | rfl | rfl | rfl | rfl | rfl | rfl | rfl | ho22
        · refine lv_tableIn (tgt := 136) hx hy dL_law_32 (by decide) (by decide) (by rfl) (by decide) ?_
          refine lv_aload_n hx hy dL_law_136 rfl (lv_at hl 2 rfl) ?_
          refine lv_aload_n hx hy dL_law_137 rfl (lv_at hl 1 rfl) ?_
          refine lv_iload_n hx hy dL_law_138 rfl (lv_at hl 0 rfl) ?_
          refine lv_iconst (v := nI 1) hx hy dL_law_139 (by decide) ?_
          refine lv_iadd hx hy dL_law_140 ?_
          refine tI (nI_add (i) (1)) ?_
          refine slN F hI hB (i := i + 1) (by omega) dL_law_141 ?_
          refine lv_aload_n hx hy dL_law_142 rfl (lv_at hl 1 rfl) ?_
          refine lv_iload_n hx hy dL_law_143 rfl (lv_at hl 0 rfl) ?_
          refine lv_iconst (v := nI 2) hx hy dL_law_144 (by decide) ?_
          refine lv_iadd hx hy dL_law_145 ?_
          refine tI (nI_add (i) (2)) ?_
          refine slN F hI hB (i := i + 2) (by omega) dL_law_146 ?_
          refine zI hI (xV F hI hl (kX5_source l E (wv) (X := Xv) hRS.1 hRS.2.2 (xs (i + 1)) (xs (i + 2))) M_L_13 (rX5 F hI) rfl ⟨Nat.le_of_ble_eq_true rfl, Nat.le_of_ble_eq_true rfl⟩ ⟨hcl, hsl⟩ rfl (Nat.le_of_ble_eq_true rfl) dL_law_147) (fun r4 v5 H locs hI hp3 => ?_)
          refine lv_aload_n hx hy dL_law_150 rfl (lv_at hl 3 rfl) ?_
          refine lv_aload_n hx hy dL_law_151 rfl (lv_at hl 1 rfl) ?_
          refine lv_iload_n hx hy dL_law_152 rfl (lv_at hl 0 rfl) ?_
          refine lv_iconst (v := nI 1) hx hy dL_law_153 (by decide) ?_
          refine lv_iadd hx hy dL_law_154 ?_
          refine tI (nI_add (i) (1)) ?_
          refine slN F hI hB (i := i + 1) (by omega) dL_law_155 ?_
          refine lv_aload_n hx hy dL_law_156 rfl (lv_at hl 1 rfl) ?_
          refine lv_iload_n hx hy dL_law_157 rfl (lv_at hl 0 rfl) ?_
          refine lv_iconst (v := nI 2) hx hy dL_law_158 (by decide) ?_
          refine lv_iadd hx hy dL_law_159 ?_
          refine tI (nI_add (i) (2)) ?_
          refine slN F hI hB (i := i + 2) (by omega) dL_law_160 ?_
          refine zI hI (xV F hI hl (kX6_source l E (v5) (X := Xv) (hp3.2.2.repM hRS.2.1 hRS.2.2) hRS.2.2 (xs (i + 1)) (xs (i + 2))) M_L_17 (rX6 F hI) rfl ⟨Nat.le_of_ble_eq_true rfl, Nat.le_of_ble_eq_true rfl⟩ ⟨hcl, hsl⟩ rfl (Nat.le_of_ble_eq_true rfl) dL_law_161) (fun r7 v8 H locs hI hp6 => ?_)
          refine lv_icmp_eq (tgt := 734) hx hy dL_law_164 (by decide) (fun h9 => ?_) (fun q => absurd (hp3.1.trans hp6.1.symm) q)
          refine lv_iinc (v := nI (i + 4)) (lv' := [(3, .int (nI (i + 4))), (0, .ref (b)), (1, .ref (eA E 0)), (2, .ref (eA E 48))]) hx hy dL_law_734 hl (k := 0) rfl (nI_add (i) 4) (by decide) rfl (fun ls hl => ?_)
          refine lv_goto (tgt := 18) hx hy dL_law_737 (by decide) ?_
          exact ih_18 (i + 4) v8 _ (by omega) (by omega) (RepS.step hRS.2.2 hRS.2.1 hp3.2 hp6.2 (ok_source hRS.2.2 (xs (i + 1)) (xs (i + 2)))) _ _ _ hI (lv_sub hl [0, 1, 2, 3] rfl)
        · refine lv_tableIn (tgt := 169) hx hy dL_law_32 (by decide) (by decide) (by rfl) (by decide) ?_
          refine lv_aload_n hx hy dL_law_169 rfl (lv_at hl 2 rfl) ?_
          refine lv_aload_n hx hy dL_law_170 rfl (lv_at hl 1 rfl) ?_
          refine lv_iload_n hx hy dL_law_171 rfl (lv_at hl 0 rfl) ?_
          refine lv_iconst (v := nI 1) hx hy dL_law_172 (by decide) ?_
          refine lv_iadd hx hy dL_law_173 ?_
          refine tI (nI_add (i) (1)) ?_
          refine slN F hI hB (i := i + 1) (by omega) dL_law_174 ?_
          refine lv_aload_n hx hy dL_law_175 rfl (lv_at hl 1 rfl) ?_
          refine lv_iload_n hx hy dL_law_176 rfl (lv_at hl 0 rfl) ?_
          refine lv_iconst (v := nI 2) hx hy dL_law_177 (by decide) ?_
          refine lv_iadd hx hy dL_law_178 ?_
          refine tI (nI_add (i) (2)) ?_
          refine slN F hI hB (i := i + 2) (by omega) dL_law_179 ?_
          refine lv_aload_n hx hy dL_law_180 rfl (lv_at hl 1 rfl) ?_
          refine lv_iload_n hx hy dL_law_181 rfl (lv_at hl 0 rfl) ?_
          refine lv_iconst (v := nI 3) hx hy dL_law_182 (by decide) ?_
          refine lv_iadd hx hy dL_law_183 ?_
          refine tI (nI_add (i) (3)) ?_
          refine slN F hI hB (i := i + 3) (by omega) dL_law_184 ?_
          refine zI hI (xV F hI hl (kX5_gate l E (wv) (X := Xv) hRS.1 hRS.2.2 (xs (i + 1)) (xs (i + 2)) (xs (i + 3))) M_L_18 (rX5 F hI) rfl ⟨Nat.le_of_ble_eq_true rfl, Nat.le_of_ble_eq_true rfl⟩ ⟨hcl, hsl⟩ rfl (Nat.le_of_ble_eq_true rfl) dL_law_185) (fun r11 v12 H locs hI hp10 => ?_)
          refine lv_aload_n hx hy dL_law_188 rfl (lv_at hl 3 rfl) ?_
          refine lv_aload_n hx hy dL_law_189 rfl (lv_at hl 1 rfl) ?_
          refine lv_iload_n hx hy dL_law_190 rfl (lv_at hl 0 rfl) ?_
          refine lv_iconst (v := nI 1) hx hy dL_law_191 (by decide) ?_
          refine lv_iadd hx hy dL_law_192 ?_
          refine tI (nI_add (i) (1)) ?_
          refine slN F hI hB (i := i + 1) (by omega) dL_law_193 ?_
          refine lv_aload_n hx hy dL_law_194 rfl (lv_at hl 1 rfl) ?_
          refine lv_iload_n hx hy dL_law_195 rfl (lv_at hl 0 rfl) ?_
          refine lv_iconst (v := nI 2) hx hy dL_law_196 (by decide) ?_
          refine lv_iadd hx hy dL_law_197 ?_
          refine tI (nI_add (i) (2)) ?_
          refine slN F hI hB (i := i + 2) (by omega) dL_law_198 ?_
          refine lv_aload_n hx hy dL_law_199 rfl (lv_at hl 1 rfl) ?_
          refine lv_iload_n hx hy dL_law_200 rfl (lv_at hl 0 rfl) ?_
          refine lv_iconst (v := nI 3) hx hy dL_law_201 (by decide) ?_
          refine lv_iadd hx hy dL_law_202 ?_
          refine tI (nI_add (i) (3)) ?_
          refine slN F hI hB (i := i + 3) (by omega) dL_law_203 ?_
          refine zI hI (xV F hI hl (kX6_gate l E (v12) (X := Xv) (hp10.2.2.repM hRS.2.1 hRS.2.2) hRS.2.2 (xs (i + 1)) (xs (i + 2)) (xs (i + 3))) M_L_22 (rX6 F hI) rfl ⟨Nat.le_of_ble_eq_true rfl, Nat.le_of_ble_eq_true rfl⟩ ⟨hcl, hsl⟩ rfl (Nat.le_of_ble_eq_true rfl) dL_law_204) (fun r14 v15 H locs hI hp13 => ?_)
          refine lv_icmp_eq (tgt := 734) hx hy dL_law_207 (by decide) (fun h16 => ?_) (fun q => absurd (hp10.1.trans hp13.1.symm) q)
          refine lv_iinc (v := nI (i + 4)) (lv' := [(3, .int (nI (i + 4))), (0, .ref (b)), (1, .ref (eA E 0)), (2, .ref (eA E 48))]) hx hy dL_law_734 hl (k := 0) rfl (nI_add (i) 4) (by decide) rfl (fun ls hl => ?_)
          refine lv_goto (tgt := 18) hx hy dL_law_737 (by decide) ?_
          exact ih_18 (i + 4) v15 _ (by omega) (by omega) (RepS.step hRS.2.2 hRS.2.1 hp10.2 hp13.2 (ok_gate hRS.2.2 (xs (i + 1)) (xs (i + 2)) (xs (i + 3)))) _ _ _ hI (lv_sub hl [0, 1, 2, 3] rfl)
        · refine lv_tableIn (tgt := 212) hx hy dL_law_32 (by decide) (by decide) (by rfl) (by decide) ?_
          refine lv_aload_n hx hy dL_law_212 rfl (lv_at hl 2 rfl) ?_
          refine lv_aload_n hx hy dL_law_213 rfl (lv_at hl 1 rfl) ?_
          refine lv_iload_n hx hy dL_law_214 rfl (lv_at hl 0 rfl) ?_
          refine lv_iconst (v := nI 1) hx hy dL_law_215 (by decide) ?_
          refine lv_iadd hx hy dL_law_216 ?_
          refine tI (nI_add (i) (1)) ?_
          refine slN F hI hB (i := i + 1) (by omega) dL_law_217 ?_
          refine lv_aload_n hx hy dL_law_218 rfl (lv_at hl 1 rfl) ?_
          refine lv_iload_n hx hy dL_law_219 rfl (lv_at hl 0 rfl) ?_
          refine lv_iconst (v := nI 2) hx hy dL_law_220 (by decide) ?_
          refine lv_iadd hx hy dL_law_221 ?_
          refine tI (nI_add (i) (2)) ?_
          refine slN F hI hB (i := i + 2) (by omega) dL_law_222 ?_
          refine lv_aload_n hx hy dL_law_223 rfl (lv_at hl 1 rfl) ?_
          refine lv_iload_n hx hy dL_law_224 rfl (lv_at hl 0 rfl) ?_
          refine lv_iconst (v := nI 3) hx hy dL_law_225 (by decide) ?_
          refine lv_iadd hx hy dL_law_226 ?_
          refine tI (nI_add (i) (3)) ?_
          refine slN F hI hB (i := i + 3) (by omega) dL_law_227 ?_
          refine zI hI (xV F hI hl (kX5_choose l E (wv) (X := Xv) hRS.1 hRS.2.2 (xs (i + 1)) (xs (i + 2)) (xs (i + 3))) M_L_23 (rX5 F hI) rfl ⟨Nat.le_of_ble_eq_true rfl, Nat.le_of_ble_eq_true rfl⟩ ⟨hcl, hsl⟩ rfl (Nat.le_of_ble_eq_true rfl) dL_law_228) (fun r18 v19 H locs hI hp17 => ?_)
          refine lv_aload_n hx hy dL_law_231 rfl (lv_at hl 3 rfl) ?_
          refine lv_aload_n hx hy dL_law_232 rfl (lv_at hl 1 rfl) ?_
          refine lv_iload_n hx hy dL_law_233 rfl (lv_at hl 0 rfl) ?_
          refine lv_iconst (v := nI 1) hx hy dL_law_234 (by decide) ?_
          refine lv_iadd hx hy dL_law_235 ?_
          refine tI (nI_add (i) (1)) ?_
          refine slN F hI hB (i := i + 1) (by omega) dL_law_236 ?_
          refine lv_aload_n hx hy dL_law_237 rfl (lv_at hl 1 rfl) ?_
          refine lv_iload_n hx hy dL_law_238 rfl (lv_at hl 0 rfl) ?_
          refine lv_iconst (v := nI 2) hx hy dL_law_239 (by decide) ?_
          refine lv_iadd hx hy dL_law_240 ?_
          refine tI (nI_add (i) (2)) ?_
          refine slN F hI hB (i := i + 2) (by omega) dL_law_241 ?_
          refine lv_aload_n hx hy dL_law_242 rfl (lv_at hl 1 rfl) ?_
          refine lv_iload_n hx hy dL_law_243 rfl (lv_at hl 0 rfl) ?_
          refine lv_iconst (v := nI 3) hx hy dL_law_244 (by decide) ?_
          refine lv_iadd hx hy dL_law_245 ?_
          refine tI (nI_add (i) (3)) ?_
          refine slN F hI hB (i := i + 3) (by omega) dL_law_246 ?_
          refine zI hI (xV F hI hl (kX6_choose l E (v19) (X := Xv) (hp17.2.2.repM hRS.2.1 hRS.2.2) hRS.2.2 (xs (i + 1)) (xs (i + 2)) (xs (i + 3))) M_L_26 (rX6 F hI) rfl ⟨Nat.le_of_ble_eq_true rfl, Nat.le_of_ble_eq_true rfl⟩ ⟨hcl, hsl⟩ rfl (Nat.le_of_ble_eq_true rfl) dL_law_247) (fun r21 v22 H locs hI hp20 => ?_)
          refine lv_icmp_eq (tgt := 734) hx hy dL_law_250 (by decide) (fun h23 => ?_) (fun q => absurd (hp17.1.trans hp20.1.symm) q)
          refine lv_iinc (v := nI (i + 4)) (lv' := [(3, .int (nI (i + 4))), (0, .ref (b)), (1, .ref (eA E 0)), (2, .ref (eA E 48))]) hx hy dL_law_734 hl (k := 0) rfl (nI_add (i) 4) (by decide) rfl (fun ls hl => ?_)
          refine lv_goto (tgt := 18) hx hy dL_law_737 (by decide) ?_
          exact ih_18 (i + 4) v22 _ (by omega) (by omega) (RepS.step hRS.2.2 hRS.2.1 hp17.2 hp20.2 (ok_choose hRS.2.2 (xs (i + 1)) (xs (i + 2)) (xs (i + 3)))) _ _ _ hI (lv_sub hl [0, 1, 2, 3] rfl)
        · refine lv_tableIn (tgt := 255) hx hy dL_law_32 (by decide) (by decide) (by rfl) (by decide) ?_
          refine lv_aload_n hx hy dL_law_255 rfl (lv_at hl 2 rfl) ?_
          refine lv_aload_n hx hy dL_law_256 rfl (lv_at hl 1 rfl) ?_
          refine lv_iload_n hx hy dL_law_257 rfl (lv_at hl 0 rfl) ?_
          refine lv_iconst (v := nI 1) hx hy dL_law_258 (by decide) ?_
          refine lv_iadd hx hy dL_law_259 ?_
          refine tI (nI_add (i) (1)) ?_
          refine slN F hI hB (i := i + 1) (by omega) dL_law_260 ?_
          refine zI hI (xV F hI hl (kX5_turn l E (wv) (X := Xv) hRS.1 hRS.2.2 (xs (i + 1))) M_L_27 (rX5 F hI) rfl ⟨Nat.le_of_ble_eq_true rfl, Nat.le_of_ble_eq_true rfl⟩ ⟨hcl, hsl⟩ rfl (Nat.le_of_ble_eq_true rfl) dL_law_261) (fun r25 v26 H locs hI hp24 => ?_)
          refine lv_aload_n hx hy dL_law_264 rfl (lv_at hl 3 rfl) ?_
          refine lv_aload_n hx hy dL_law_265 rfl (lv_at hl 1 rfl) ?_
          refine lv_iload_n hx hy dL_law_266 rfl (lv_at hl 0 rfl) ?_
          refine lv_iconst (v := nI 1) hx hy dL_law_267 (by decide) ?_
          refine lv_iadd hx hy dL_law_268 ?_
          refine tI (nI_add (i) (1)) ?_
          refine slN F hI hB (i := i + 1) (by omega) dL_law_269 ?_
          refine zI hI (xV F hI hl (kX6_turn l E (v26) (X := Xv) (hp24.2.2.repM hRS.2.1 hRS.2.2) hRS.2.2 (xs (i + 1))) M_L_31 (rX6 F hI) rfl ⟨Nat.le_of_ble_eq_true rfl, Nat.le_of_ble_eq_true rfl⟩ ⟨hcl, hsl⟩ rfl (Nat.le_of_ble_eq_true rfl) dL_law_270) (fun r28 v29 H locs hI hp27 => ?_)
          refine lv_icmp_eq (tgt := 734) hx hy dL_law_273 (by decide) (fun h30 => ?_) (fun q => absurd (hp24.1.trans hp27.1.symm) q)
          refine lv_iinc (v := nI (i + 4)) (lv' := [(3, .int (nI (i + 4))), (0, .ref (b)), (1, .ref (eA E 0)), (2, .ref (eA E 48))]) hx hy dL_law_734 hl (k := 0) rfl (nI_add (i) 4) (by decide) rfl (fun ls hl => ?_)
          refine lv_goto (tgt := 18) hx hy dL_law_737 (by decide) ?_
          exact ih_18 (i + 4) v29 _ (by omega) (by omega) (RepS.step hRS.2.2 hRS.2.1 hp24.2 hp27.2 (ok_turn hRS.2.2 (xs (i + 1)))) _ _ _ hI (lv_sub hl [0, 1, 2, 3] rfl)
        · refine lv_tableIn (tgt := 278) hx hy dL_law_32 (by decide) (by decide) (by rfl) (by decide) ?_
          refine lv_aload_n hx hy dL_law_278 rfl (lv_at hl 2 rfl) ?_
          refine lv_aload_n hx hy dL_law_279 rfl (lv_at hl 1 rfl) ?_
          refine lv_iload_n hx hy dL_law_280 rfl (lv_at hl 0 rfl) ?_
          refine lv_iconst (v := nI 1) hx hy dL_law_281 (by decide) ?_
          refine lv_iadd hx hy dL_law_282 ?_
          refine tI (nI_add (i) (1)) ?_
          refine slN F hI hB (i := i + 1) (by omega) dL_law_283 ?_
          refine lv_aload_n hx hy dL_law_284 rfl (lv_at hl 1 rfl) ?_
          refine lv_iload_n hx hy dL_law_285 rfl (lv_at hl 0 rfl) ?_
          refine lv_iconst (v := nI 2) hx hy dL_law_286 (by decide) ?_
          refine lv_iadd hx hy dL_law_287 ?_
          refine tI (nI_add (i) (2)) ?_
          refine slN F hI hB (i := i + 2) (by omega) dL_law_288 ?_
          refine zI hI (xV F hI hl (kX5_delay l E (wv) (X := Xv) hRS.1 hRS.2.2 (xs (i + 1)) (xs (i + 2))) M_L_32 (rX5 F hI) rfl ⟨Nat.le_of_ble_eq_true rfl, Nat.le_of_ble_eq_true rfl⟩ ⟨hcl, hsl⟩ rfl (Nat.le_of_ble_eq_true rfl) dL_law_289) (fun r32 v33 H locs hI hp31 => ?_)
          refine lv_aload_n hx hy dL_law_292 rfl (lv_at hl 3 rfl) ?_
          refine lv_aload_n hx hy dL_law_293 rfl (lv_at hl 1 rfl) ?_
          refine lv_iload_n hx hy dL_law_294 rfl (lv_at hl 0 rfl) ?_
          refine lv_iconst (v := nI 1) hx hy dL_law_295 (by decide) ?_
          refine lv_iadd hx hy dL_law_296 ?_
          refine tI (nI_add (i) (1)) ?_
          refine slN F hI hB (i := i + 1) (by omega) dL_law_297 ?_
          refine lv_aload_n hx hy dL_law_298 rfl (lv_at hl 1 rfl) ?_
          refine lv_iload_n hx hy dL_law_299 rfl (lv_at hl 0 rfl) ?_
          refine lv_iconst (v := nI 2) hx hy dL_law_300 (by decide) ?_
          refine lv_iadd hx hy dL_law_301 ?_
          refine tI (nI_add (i) (2)) ?_
          refine slN F hI hB (i := i + 2) (by omega) dL_law_302 ?_
          refine zI hI (xV F hI hl (kX6_delay l E (v33) (X := Xv) (hp31.2.2.repM hRS.2.1 hRS.2.2) hRS.2.2 (xs (i + 1)) (xs (i + 2))) M_L_35 (rX6 F hI) rfl ⟨Nat.le_of_ble_eq_true rfl, Nat.le_of_ble_eq_true rfl⟩ ⟨hcl, hsl⟩ rfl (Nat.le_of_ble_eq_true rfl) dL_law_303) (fun r35 v36 H locs hI hp34 => ?_)
          refine lv_icmp_eq (tgt := 734) hx hy dL_law_306 (by decide) (fun h37 => ?_) (fun q => absurd (hp31.1.trans hp34.1.symm) q)
          refine lv_iinc (v := nI (i + 4)) (lv' := [(3, .int (nI (i + 4))), (0, .ref (b)), (1, .ref (eA E 0)), (2, .ref (eA E 48))]) hx hy dL_law_734 hl (k := 0) rfl (nI_add (i) 4) (by decide) rfl (fun ls hl => ?_)
          refine lv_goto (tgt := 18) hx hy dL_law_737 (by decide) ?_
          exact ih_18 (i + 4) v36 _ (by omega) (by omega) (RepS.step hRS.2.2 hRS.2.1 hp31.2 hp34.2 (ok_delay hRS.2.2 (xs (i + 1)) (xs (i + 2)))) _ _ _ hI (lv_sub hl [0, 1, 2, 3] rfl)
        · refine lv_tableIn (tgt := 311) hx hy dL_law_32 (by decide) (by decide) (by rfl) (by decide) ?_
          refine lv_aload_n hx hy dL_law_311 rfl (lv_at hl 2 rfl) ?_
          refine lv_aload_n hx hy dL_law_312 rfl (lv_at hl 1 rfl) ?_
          refine lv_iload_n hx hy dL_law_313 rfl (lv_at hl 0 rfl) ?_
          refine lv_iconst (v := nI 1) hx hy dL_law_314 (by decide) ?_
          refine lv_iadd hx hy dL_law_315 ?_
          refine tI (nI_add (i) (1)) ?_
          refine slN F hI hB (i := i + 1) (by omega) dL_law_316 ?_
          refine lv_aload_n hx hy dL_law_317 rfl (lv_at hl 1 rfl) ?_
          refine lv_iload_n hx hy dL_law_318 rfl (lv_at hl 0 rfl) ?_
          refine lv_iconst (v := nI 2) hx hy dL_law_319 (by decide) ?_
          refine lv_iadd hx hy dL_law_320 ?_
          refine tI (nI_add (i) (2)) ?_
          refine slN F hI hB (i := i + 2) (by omega) dL_law_321 ?_
          refine lv_aload_n hx hy dL_law_322 rfl (lv_at hl 1 rfl) ?_
          refine lv_iload_n hx hy dL_law_323 rfl (lv_at hl 0 rfl) ?_
          refine lv_iconst (v := nI 3) hx hy dL_law_324 (by decide) ?_
          refine lv_iadd hx hy dL_law_325 ?_
          refine tI (nI_add (i) (3)) ?_
          refine slN F hI hB (i := i + 3) (by omega) dL_law_326 ?_
          refine zI hI (xV F hI hl (kX5_reseed l E (wv) (X := Xv) hRS.1 hRS.2.2 (xs (i + 1)) (xs (i + 2)) (xs (i + 3))) M_L_36 (rX5 F hI) rfl ⟨Nat.le_of_ble_eq_true rfl, Nat.le_of_ble_eq_true rfl⟩ ⟨hcl, hsl⟩ rfl (Nat.le_of_ble_eq_true rfl) dL_law_327) (fun r39 v40 H locs hI hp38 => ?_)
          refine lv_aload_n hx hy dL_law_330 rfl (lv_at hl 3 rfl) ?_
          refine lv_aload_n hx hy dL_law_331 rfl (lv_at hl 1 rfl) ?_
          refine lv_iload_n hx hy dL_law_332 rfl (lv_at hl 0 rfl) ?_
          refine lv_iconst (v := nI 1) hx hy dL_law_333 (by decide) ?_
          refine lv_iadd hx hy dL_law_334 ?_
          refine tI (nI_add (i) (1)) ?_
          refine slN F hI hB (i := i + 1) (by omega) dL_law_335 ?_
          refine lv_aload_n hx hy dL_law_336 rfl (lv_at hl 1 rfl) ?_
          refine lv_iload_n hx hy dL_law_337 rfl (lv_at hl 0 rfl) ?_
          refine lv_iconst (v := nI 2) hx hy dL_law_338 (by decide) ?_
          refine lv_iadd hx hy dL_law_339 ?_
          refine tI (nI_add (i) (2)) ?_
          refine slN F hI hB (i := i + 2) (by omega) dL_law_340 ?_
          refine lv_aload_n hx hy dL_law_341 rfl (lv_at hl 1 rfl) ?_
          refine lv_iload_n hx hy dL_law_342 rfl (lv_at hl 0 rfl) ?_
          refine lv_iconst (v := nI 3) hx hy dL_law_343 (by decide) ?_
          refine lv_iadd hx hy dL_law_344 ?_
          refine tI (nI_add (i) (3)) ?_
          refine slN F hI hB (i := i + 3) (by omega) dL_law_345 ?_
          refine zI hI (xV F hI hl (kX6_reseed l E (v40) (X := Xv) (hp38.2.2.repM hRS.2.1 hRS.2.2) hRS.2.2 (xs (i + 1)) (xs (i + 2)) (xs (i + 3))) M_L_39 (rX6 F hI) rfl ⟨Nat.le_of_ble_eq_true rfl, Nat.le_of_ble_eq_true rfl⟩ ⟨hcl, hsl⟩ rfl (Nat.le_of_ble_eq_true rfl) dL_law_346) (fun r42 v43 H locs hI hp41 => ?_)
          refine lv_icmp_eq (tgt := 734) hx hy dL_law_349 (by decide) (fun h44 => ?_) (fun q => absurd (hp38.1.trans hp41.1.symm) q)
          refine lv_iinc (v := nI (i + 4)) (lv' := [(3, .int (nI (i + 4))), (0, .ref (b)), (1, .ref (eA E 0)), (2, .ref (eA E 48))]) hx hy dL_law_734 hl (k := 0) rfl (nI_add (i) 4) (by decide) rfl (fun ls hl => ?_)
          refine lv_goto (tgt := 18) hx hy dL_law_737 (by decide) ?_
          exact ih_18 (i + 4) v43 _ (by omega) (by omega) (RepS.step hRS.2.2 hRS.2.1 hp38.2 hp41.2 (ok_reseed hRS.2.2 (xs (i + 1)) (xs (i + 2)) (xs (i + 3)))) _ _ _ hI (lv_sub hl [0, 1, 2, 3] rfl)
        · refine lv_tableIn (tgt := 354) hx hy dL_law_32 (by decide) (by decide) (by rfl) (by decide) ?_
          refine lv_aload_n hx hy dL_law_354 rfl (lv_at hl 2 rfl) ?_
          refine zI hI (xV F hI hl (kX5_removeLast l E (wv) (X := Xv) hRS.1 hRS.2.2 ) M_L_40 (rX5 F hI) rfl ⟨Nat.le_of_ble_eq_true rfl, Nat.le_of_ble_eq_true rfl⟩ ⟨hcl, hsl⟩ rfl (Nat.le_of_ble_eq_true rfl) dL_law_355) (fun r46 v47 H locs hI hp45 => ?_)
          refine lv_aload_n hx hy dL_law_358 rfl (lv_at hl 3 rfl) ?_
          refine zI hI (xV F hI hl (kX6_removeLast l E (v47) (X := Xv) (hp45.2.2.repM hRS.2.1 hRS.2.2) hRS.2.2 ) M_L_44 (rX6 F hI) rfl ⟨Nat.le_of_ble_eq_true rfl, Nat.le_of_ble_eq_true rfl⟩ ⟨hcl, hsl⟩ rfl (Nat.le_of_ble_eq_true rfl) dL_law_359) (fun r49 v50 H locs hI hp48 => ?_)
          refine lv_icmp_eq (tgt := 734) hx hy dL_law_362 (by decide) (fun h51 => ?_) (fun q => absurd (hp45.1.trans hp48.1.symm) q)
          refine lv_iinc (v := nI (i + 4)) (lv' := [(3, .int (nI (i + 4))), (0, .ref (b)), (1, .ref (eA E 0)), (2, .ref (eA E 48))]) hx hy dL_law_734 hl (k := 0) rfl (nI_add (i) 4) (by decide) rfl (fun ls hl => ?_)
          refine lv_goto (tgt := 18) hx hy dL_law_737 (by decide) ?_
          exact ih_18 (i + 4) v50 _ (by omega) (by omega) (RepS.step hRS.2.2 hRS.2.1 hp45.2 hp48.2 (ok_removeLast hRS.2.2 )) _ _ _ hI (lv_sub hl [0, 1, 2, 3] rfl)
        · refine lv_tableIn (tgt := 367) hx hy dL_law_32 (by decide) (by decide) (by rfl) (by decide) ?_
          refine lv_aload_n hx hy dL_law_367 rfl (lv_at hl 2 rfl) ?_
          refine lv_aload_n hx hy dL_law_368 rfl (lv_at hl 1 rfl) ?_
          refine lv_iload_n hx hy dL_law_369 rfl (lv_at hl 0 rfl) ?_
          refine lv_iconst (v := nI 1) hx hy dL_law_370 (by decide) ?_
          refine lv_iadd hx hy dL_law_371 ?_
          refine tI (nI_add (i) (1)) ?_
          refine slN F hI hB (i := i + 1) (by omega) dL_law_372 ?_
          refine zI hI (xV F hI hl (kX5_setLength l E (wv) (X := Xv) hRS.1 hRS.2.2 (xs (i + 1))) M_L_45 (rX5 F hI) rfl ⟨Nat.le_of_ble_eq_true rfl, Nat.le_of_ble_eq_true rfl⟩ ⟨hcl, hsl⟩ rfl (Nat.le_of_ble_eq_true rfl) dL_law_373) (fun r53 v54 H locs hI hp52 => ?_)
          refine lv_aload_n hx hy dL_law_376 rfl (lv_at hl 3 rfl) ?_
          refine lv_aload_n hx hy dL_law_377 rfl (lv_at hl 1 rfl) ?_
          refine lv_iload_n hx hy dL_law_378 rfl (lv_at hl 0 rfl) ?_
          refine lv_iconst (v := nI 1) hx hy dL_law_379 (by decide) ?_
          refine lv_iadd hx hy dL_law_380 ?_
          refine tI (nI_add (i) (1)) ?_
          refine slN F hI hB (i := i + 1) (by omega) dL_law_381 ?_
          refine zI hI (xV F hI hl (kX6_setLength l E (v54) (X := Xv) (hp52.2.2.repM hRS.2.1 hRS.2.2) hRS.2.2 (xs (i + 1))) M_L_48 (rX6 F hI) rfl ⟨Nat.le_of_ble_eq_true rfl, Nat.le_of_ble_eq_true rfl⟩ ⟨hcl, hsl⟩ rfl (Nat.le_of_ble_eq_true rfl) dL_law_382) (fun r56 v57 H locs hI hp55 => ?_)
          refine lv_icmp_eq (tgt := 734) hx hy dL_law_385 (by decide) (fun h58 => ?_) (fun q => absurd (hp52.1.trans hp55.1.symm) q)
          refine lv_iinc (v := nI (i + 4)) (lv' := [(3, .int (nI (i + 4))), (0, .ref (b)), (1, .ref (eA E 0)), (2, .ref (eA E 48))]) hx hy dL_law_734 hl (k := 0) rfl (nI_add (i) 4) (by decide) rfl (fun ls hl => ?_)
          refine lv_goto (tgt := 18) hx hy dL_law_737 (by decide) ?_
          exact ih_18 (i + 4) v57 _ (by omega) (by omega) (RepS.step hRS.2.2 hRS.2.1 hp52.2 hp55.2 (ok_setLength hRS.2.2 (xs (i + 1)))) _ _ _ hI (lv_sub hl [0, 1, 2, 3] rfl)
        · refine lv_tableIn (tgt := 390) hx hy dL_law_32 (by decide) (by decide) (by rfl) (by decide) ?_
          refine lv_aload_n hx hy dL_law_390 rfl (lv_at hl 2 rfl) ?_
          refine zI hI (xV F hI hl (kX5_readCircuit l E (wv) (X := Xv) hRS.1 hRS.2.2 ) M_L_49 (rX5 F hI) rfl ⟨Nat.le_of_ble_eq_true rfl, Nat.le_of_ble_eq_true rfl⟩ ⟨hcl, hsl⟩ rfl (Nat.le_of_ble_eq_true rfl) dL_law_391) (fun r60 v61 H locs hI hp59 => ?_)
          refine lv_aload_n hx hy dL_law_394 rfl (lv_at hl 3 rfl) ?_
          refine zI hI (xV F hI hl (kX6_readCircuit l E (v61) (X := Xv) (hp59.2.2.repM hRS.2.1 hRS.2.2) hRS.2.2 ) M_L_52 (rX6 F hI) rfl ⟨Nat.le_of_ble_eq_true rfl, Nat.le_of_ble_eq_true rfl⟩ ⟨hcl, hsl⟩ rfl (Nat.le_of_ble_eq_true rfl) dL_law_395) (fun r63 v64 H locs hI hp62 => ?_)
          refine lv_icmp_eq (tgt := 734) hx hy dL_law_398 (by decide) (fun h65 => ?_) (fun q => absurd (hp59.1.trans hp62.1.symm) q)
          refine lv_iinc (v := nI (i + 4)) (lv' := [(3, .int (nI (i + 4))), (0, .ref (b)), (1, .ref (eA E 0)), (2, .ref (eA E 48))]) hx hy dL_law_734 hl (k := 0) rfl (nI_add (i) 4) (by decide) rfl (fun ls hl => ?_)
          refine lv_goto (tgt := 18) hx hy dL_law_737 (by decide) ?_
          exact ih_18 (i + 4) v64 _ (by omega) (by omega) (RepS.step hRS.2.2 hRS.2.1 hp59.2 hp62.2 (ok_read hRS.2.2 )) _ _ _ hI (lv_sub hl [0, 1, 2, 3] rfl)
        · refine lv_tableIn (tgt := 403) hx hy dL_law_32 (by decide) (by decide) (by rfl) (by decide) ?_
          refine lv_aload_n hx hy dL_law_403 rfl (lv_at hl 2 rfl) ?_
          refine lv_aload_n hx hy dL_law_404 rfl (lv_at hl 1 rfl) ?_
          refine lv_iload_n hx hy dL_law_405 rfl (lv_at hl 0 rfl) ?_
          refine lv_iconst (v := nI 1) hx hy dL_law_406 (by decide) ?_
          refine lv_iadd hx hy dL_law_407 ?_
          refine tI (nI_add (i) (1)) ?_
          refine slN F hI hB (i := i + 1) (by omega) dL_law_408 ?_
          refine lv_i2c (v := (Int32.toUInt32 (xs (i + 1)) % 65536).toInt32) hx hy dL_law_409 rfl ?_
          refine tI (chN _) ?_
          refine zI hI (xV F hI hl (kX5_type l E (wv) (X := Xv) hRS.1 hRS.2.2 ((xs (i + 1)).toUInt32.toNat % 65536) (ch_lt _)) M_L_53 (rX5 F hI) rfl ⟨Nat.le_of_ble_eq_true rfl, Nat.le_of_ble_eq_true rfl⟩ ⟨hcl, hsl⟩ rfl (Nat.le_of_ble_eq_true rfl) dL_law_410) (fun r67 v68 H locs hI hp66 => ?_)
          refine lv_aload_n hx hy dL_law_413 rfl (lv_at hl 3 rfl) ?_
          refine lv_aload_n hx hy dL_law_414 rfl (lv_at hl 1 rfl) ?_
          refine lv_iload_n hx hy dL_law_415 rfl (lv_at hl 0 rfl) ?_
          refine lv_iconst (v := nI 1) hx hy dL_law_416 (by decide) ?_
          refine lv_iadd hx hy dL_law_417 ?_
          refine tI (nI_add (i) (1)) ?_
          refine slN F hI hB (i := i + 1) (by omega) dL_law_418 ?_
          refine lv_i2c (v := (Int32.toUInt32 (xs (i + 1)) % 65536).toInt32) hx hy dL_law_419 rfl ?_
          refine tI (chN _) ?_
          refine zI hI (xV F hI hl (kX6_type l E (v68) (X := Xv) (hp66.2.2.repM hRS.2.1 hRS.2.2) hRS.2.2 ((xs (i + 1)).toUInt32.toNat % 65536) (ch_lt _)) M_L_57 (rX6 F hI) rfl ⟨Nat.le_of_ble_eq_true rfl, Nat.le_of_ble_eq_true rfl⟩ ⟨hcl, hsl⟩ rfl (Nat.le_of_ble_eq_true rfl) dL_law_420) (fun r70 v71 H locs hI hp69 => ?_)
          refine lv_icmp_eq (tgt := 734) hx hy dL_law_423 (by decide) (fun h72 => ?_) (fun q => absurd (hp66.1.trans hp69.1.symm) q)
          refine lv_iinc (v := nI (i + 4)) (lv' := [(3, .int (nI (i + 4))), (0, .ref (b)), (1, .ref (eA E 0)), (2, .ref (eA E 48))]) hx hy dL_law_734 hl (k := 0) rfl (nI_add (i) 4) (by decide) rfl (fun ls hl => ?_)
          refine lv_goto (tgt := 18) hx hy dL_law_737 (by decide) ?_
          exact ih_18 (i + 4) v71 _ (by omega) (by omega) (RepS.step hRS.2.2 hRS.2.1 hp66.2 hp69.2 (ok_type hRS.2.2 (ch_lt (xs (i + 1))))) _ _ _ hI (lv_sub hl [0, 1, 2, 3] rfl)
        · refine lv_tableIn (tgt := 428) hx hy dL_law_32 (by decide) (by decide) (by rfl) (by decide) ?_
          refine lv_aload_n hx hy dL_law_428 rfl (lv_at hl 2 rfl) ?_
          refine zI hI (xV F hI hl (kX5_clearText l E (wv) (X := Xv) hRS.1 hRS.2.2 ) M_L_58 (rX5 F hI) rfl ⟨Nat.le_of_ble_eq_true rfl, Nat.le_of_ble_eq_true rfl⟩ ⟨hcl, hsl⟩ rfl (Nat.le_of_ble_eq_true rfl) dL_law_429) (fun r74 v75 H locs hI hp73 => ?_)
          refine lv_aload_n hx hy dL_law_432 rfl (lv_at hl 3 rfl) ?_
          refine zI hI (xV F hI hl (kX6_clearText l E (v75) (X := Xv) (hp73.2.2.repM hRS.2.1 hRS.2.2) hRS.2.2 ) M_L_61 (rX6 F hI) rfl ⟨Nat.le_of_ble_eq_true rfl, Nat.le_of_ble_eq_true rfl⟩ ⟨hcl, hsl⟩ rfl (Nat.le_of_ble_eq_true rfl) dL_law_433) (fun r77 v78 H locs hI hp76 => ?_)
          refine lv_icmp_eq (tgt := 734) hx hy dL_law_436 (by decide) (fun h79 => ?_) (fun q => absurd (hp73.1.trans hp76.1.symm) q)
          refine lv_iinc (v := nI (i + 4)) (lv' := [(3, .int (nI (i + 4))), (0, .ref (b)), (1, .ref (eA E 0)), (2, .ref (eA E 48))]) hx hy dL_law_734 hl (k := 0) rfl (nI_add (i) 4) (by decide) rfl (fun ls hl => ?_)
          refine lv_goto (tgt := 18) hx hy dL_law_737 (by decide) ?_
          exact ih_18 (i + 4) v78 _ (by omega) (by omega) (RepS.step hRS.2.2 hRS.2.1 hp73.2 hp76.2 (ok_clear hRS.2.2 )) _ _ _ hI (lv_sub hl [0, 1, 2, 3] rfl)
        · refine lv_tableIn (tgt := 441) hx hy dL_law_32 (by decide) (by decide) (by rfl) (by decide) ?_
          refine lv_aload_n hx hy dL_law_441 rfl (lv_at hl 2 rfl) ?_
          refine zI hI (xV F hI hl (kX5_undo l E (wv) (X := Xv) hRS.1 hRS.2.2 ) M_L_62 (rX5 F hI) rfl ⟨Nat.le_of_ble_eq_true rfl, Nat.le_of_ble_eq_true rfl⟩ ⟨hcl, hsl⟩ rfl (Nat.le_of_ble_eq_true rfl) dL_law_442) (fun r81 v82 H locs hI hp80 => ?_)
          refine lv_aload_n hx hy dL_law_445 rfl (lv_at hl 3 rfl) ?_
          refine zI hI (xV F hI hl (kX6_undo l E (v82) (X := Xv) (hp80.2.2.repM hRS.2.1 hRS.2.2) hRS.2.2 ) M_L_65 (rX6 F hI) rfl ⟨Nat.le_of_ble_eq_true rfl, Nat.le_of_ble_eq_true rfl⟩ ⟨hcl, hsl⟩ rfl (Nat.le_of_ble_eq_true rfl) dL_law_446) (fun r84 v85 H locs hI hp83 => ?_)
          refine lv_icmp_eq (tgt := 734) hx hy dL_law_449 (by decide) (fun h86 => ?_) (fun q => absurd (hp80.1.trans hp83.1.symm) q)
          refine lv_iinc (v := nI (i + 4)) (lv' := [(3, .int (nI (i + 4))), (0, .ref (b)), (1, .ref (eA E 0)), (2, .ref (eA E 48))]) hx hy dL_law_734 hl (k := 0) rfl (nI_add (i) 4) (by decide) rfl (fun ls hl => ?_)
          refine lv_goto (tgt := 18) hx hy dL_law_737 (by decide) ?_
          exact ih_18 (i + 4) v85 _ (by omega) (by omega) (RepS.step hRS.2.2 hRS.2.1 hp80.2 hp83.2 (ok_undo hRS.2.2 )) _ _ _ hI (lv_sub hl [0, 1, 2, 3] rfl)
        · refine lv_tableIn (tgt := 454) hx hy dL_law_32 (by decide) (by decide) (by rfl) (by decide) ?_
          refine lv_aload_n hx hy dL_law_454 rfl (lv_at hl 2 rfl) ?_
          refine zI hI (xV F hI hl (kX5_keep l E (wv) (X := Xv) hRS.1 hRS.2.2 ) M_L_66 (rX5 F hI) rfl ⟨Nat.le_of_ble_eq_true rfl, Nat.le_of_ble_eq_true rfl⟩ ⟨hcl, hsl⟩ rfl (Nat.le_of_ble_eq_true rfl) dL_law_455) (fun r88 v89 H locs hI hp87 => ?_)
          refine lv_aload_n hx hy dL_law_458 rfl (lv_at hl 3 rfl) ?_
          refine zI hI (xV F hI hl (kX6_keep l E (v89) (X := Xv) (hp87.2.2.repM hRS.2.1 hRS.2.2) hRS.2.2 ) M_L_69 (rX6 F hI) rfl ⟨Nat.le_of_ble_eq_true rfl, Nat.le_of_ble_eq_true rfl⟩ ⟨hcl, hsl⟩ rfl (Nat.le_of_ble_eq_true rfl) dL_law_459) (fun r91 v92 H locs hI hp90 => ?_)
          refine lv_icmp_eq (tgt := 734) hx hy dL_law_462 (by decide) (fun h93 => ?_) (fun q => absurd (hp87.1.trans hp90.1.symm) q)
          refine lv_iinc (v := nI (i + 4)) (lv' := [(3, .int (nI (i + 4))), (0, .ref (b)), (1, .ref (eA E 0)), (2, .ref (eA E 48))]) hx hy dL_law_734 hl (k := 0) rfl (nI_add (i) 4) (by decide) rfl (fun ls hl => ?_)
          refine lv_goto (tgt := 18) hx hy dL_law_737 (by decide) ?_
          exact ih_18 (i + 4) v92 _ (by omega) (by omega) (RepS.step hRS.2.2 hRS.2.1 hp87.2 hp90.2 (ok_keep hRS.2.2 )) _ _ _ hI (lv_sub hl [0, 1, 2, 3] rfl)
        · refine lv_tableIn (tgt := 467) hx hy dL_law_32 (by decide) (by decide) (by rfl) (by decide) ?_
          refine lv_aload_n hx hy dL_law_467 rfl (lv_at hl 2 rfl) ?_
          refine zI hI (xV F hI hl (kX5_restore l E (wv) (X := Xv) hRS.1 hRS.2.2 ) M_L_70 (rX5 F hI) rfl ⟨Nat.le_of_ble_eq_true rfl, Nat.le_of_ble_eq_true rfl⟩ ⟨hcl, hsl⟩ rfl (Nat.le_of_ble_eq_true rfl) dL_law_468) (fun r95 v96 H locs hI hp94 => ?_)
          refine lv_aload_n hx hy dL_law_471 rfl (lv_at hl 3 rfl) ?_
          refine zI hI (xV F hI hl (kX6_restore l E (v96) (X := Xv) (hp94.2.2.repM hRS.2.1 hRS.2.2) hRS.2.2 ) M_L_73 (rX6 F hI) rfl ⟨Nat.le_of_ble_eq_true rfl, Nat.le_of_ble_eq_true rfl⟩ ⟨hcl, hsl⟩ rfl (Nat.le_of_ble_eq_true rfl) dL_law_472) (fun r98 v99 H locs hI hp97 => ?_)
          refine lv_icmp_eq (tgt := 734) hx hy dL_law_475 (by decide) (fun h100 => ?_) (fun q => absurd (hp94.1.trans hp97.1.symm) q)
          refine lv_iinc (v := nI (i + 4)) (lv' := [(3, .int (nI (i + 4))), (0, .ref (b)), (1, .ref (eA E 0)), (2, .ref (eA E 48))]) hx hy dL_law_734 hl (k := 0) rfl (nI_add (i) 4) (by decide) rfl (fun ls hl => ?_)
          refine lv_goto (tgt := 18) hx hy dL_law_737 (by decide) ?_
          exact ih_18 (i + 4) v99 _ (by omega) (by omega) (RepS.step hRS.2.2 hRS.2.1 hp94.2 hp97.2 (ok_restore hRS.2.2 )) _ _ _ hI (lv_sub hl [0, 1, 2, 3] rfl)
        · refine lv_tableIn (tgt := 480) hx hy dL_law_32 (by decide) (by decide) (by rfl) (by decide) ?_
          refine lv_aload_n hx hy dL_law_480 rfl (lv_at hl 2 rfl) ?_
          refine lv_aload_n hx hy dL_law_481 rfl (lv_at hl 1 rfl) ?_
          refine lv_iload_n hx hy dL_law_482 rfl (lv_at hl 0 rfl) ?_
          refine lv_iconst (v := nI 1) hx hy dL_law_483 (by decide) ?_
          refine lv_iadd hx hy dL_law_484 ?_
          refine tI (nI_add (i) (1)) ?_
          refine slN F hI hB (i := i + 1) (by omega) dL_law_485 ?_
          refine lv_aload_n hx hy dL_law_486 rfl (lv_at hl 1 rfl) ?_
          refine lv_iload_n hx hy dL_law_487 rfl (lv_at hl 0 rfl) ?_
          refine lv_iconst (v := nI 2) hx hy dL_law_488 (by decide) ?_
          refine lv_iadd hx hy dL_law_489 ?_
          refine tI (nI_add (i) (2)) ?_
          refine slN F hI hB (i := i + 2) (by omega) dL_law_490 ?_
          refine zI hI (xV F hI hl (kX5_line l E (wv) (X := Xv) hRS.1 hRS.2.2 (xs (i + 1)) (xs (i + 2))) M_L_74 (rX5 F hI) rfl ⟨Nat.le_of_ble_eq_true rfl, Nat.le_of_ble_eq_true rfl⟩ ⟨hcl, hsl⟩ rfl (Nat.le_of_ble_eq_true rfl) dL_law_491) (fun r102 v103 H locs hI hp101 => ?_)
          refine lv_aload_n hx hy dL_law_494 rfl (lv_at hl 3 rfl) ?_
          refine lv_aload_n hx hy dL_law_495 rfl (lv_at hl 1 rfl) ?_
          refine lv_iload_n hx hy dL_law_496 rfl (lv_at hl 0 rfl) ?_
          refine lv_iconst (v := nI 1) hx hy dL_law_497 (by decide) ?_
          refine lv_iadd hx hy dL_law_498 ?_
          refine tI (nI_add (i) (1)) ?_
          refine slN F hI hB (i := i + 1) (by omega) dL_law_499 ?_
          refine lv_aload_n hx hy dL_law_500 rfl (lv_at hl 1 rfl) ?_
          refine lv_iload_n hx hy dL_law_501 rfl (lv_at hl 0 rfl) ?_
          refine lv_iconst (v := nI 2) hx hy dL_law_502 (by decide) ?_
          refine lv_iadd hx hy dL_law_503 ?_
          refine tI (nI_add (i) (2)) ?_
          refine slN F hI hB (i := i + 2) (by omega) dL_law_504 ?_
          refine zI hI (xV F hI hl (kX6_line l E (v103) (X := Xv) (hp101.2.2.repM hRS.2.1 hRS.2.2) hRS.2.2 (xs (i + 1)) (xs (i + 2))) M_L_77 (rX6 F hI) rfl ⟨Nat.le_of_ble_eq_true rfl, Nat.le_of_ble_eq_true rfl⟩ ⟨hcl, hsl⟩ rfl (Nat.le_of_ble_eq_true rfl) dL_law_505) (fun r105 v106 H locs hI hp104 => ?_)
          refine lv_icmp_eq (tgt := 734) hx hy dL_law_508 (by decide) (fun h107 => ?_) (fun q => absurd (hp101.1.trans hp104.1.symm) q)
          refine lv_iinc (v := nI (i + 4)) (lv' := [(3, .int (nI (i + 4))), (0, .ref (b)), (1, .ref (eA E 0)), (2, .ref (eA E 48))]) hx hy dL_law_734 hl (k := 0) rfl (nI_add (i) 4) (by decide) rfl (fun ls hl => ?_)
          refine lv_goto (tgt := 18) hx hy dL_law_737 (by decide) ?_
          exact ih_18 (i + 4) v106 _ (by omega) (by omega) (RepS.step hRS.2.2 hRS.2.1 hp101.2 hp104.2 ((ok_q hRS.2.2).1 (xs (i + 1)) (xs (i + 2)))) _ _ _ hI (lv_sub hl [0, 1, 2, 3] rfl)
        · refine lv_tableIn (tgt := 513) hx hy dL_law_32 (by decide) (by decide) (by rfl) (by decide) ?_
          refine lv_aload_n hx hy dL_law_513 rfl (lv_at hl 2 rfl) ?_
          refine lv_aload_n hx hy dL_law_514 rfl (lv_at hl 1 rfl) ?_
          refine lv_iload_n hx hy dL_law_515 rfl (lv_at hl 0 rfl) ?_
          refine lv_iconst (v := nI 1) hx hy dL_law_516 (by decide) ?_
          refine lv_iadd hx hy dL_law_517 ?_
          refine tI (nI_add (i) (1)) ?_
          refine slN F hI hB (i := i + 1) (by omega) dL_law_518 ?_
          refine lv_aload_n hx hy dL_law_519 rfl (lv_at hl 1 rfl) ?_
          refine lv_iload_n hx hy dL_law_520 rfl (lv_at hl 0 rfl) ?_
          refine lv_iconst (v := nI 2) hx hy dL_law_521 (by decide) ?_
          refine lv_iadd hx hy dL_law_522 ?_
          refine tI (nI_add (i) (2)) ?_
          refine slN F hI hB (i := i + 2) (by omega) dL_law_523 ?_
          refine zI hI (xV F hI hl (kX5_bit l E (wv) (X := Xv) hRS.1 hRS.2.2 (xs (i + 1)) (xs (i + 2))) M_L_78 (rX5 F hI) rfl ⟨Nat.le_of_ble_eq_true rfl, Nat.le_of_ble_eq_true rfl⟩ ⟨hcl, hsl⟩ rfl (Nat.le_of_ble_eq_true rfl) dL_law_524) (fun r109 v110 H locs hI hp108 => ?_)
          refine lv_aload_n hx hy dL_law_527 rfl (lv_at hl 3 rfl) ?_
          refine lv_aload_n hx hy dL_law_528 rfl (lv_at hl 1 rfl) ?_
          refine lv_iload_n hx hy dL_law_529 rfl (lv_at hl 0 rfl) ?_
          refine lv_iconst (v := nI 1) hx hy dL_law_530 (by decide) ?_
          refine lv_iadd hx hy dL_law_531 ?_
          refine tI (nI_add (i) (1)) ?_
          refine slN F hI hB (i := i + 1) (by omega) dL_law_532 ?_
          refine lv_aload_n hx hy dL_law_533 rfl (lv_at hl 1 rfl) ?_
          refine lv_iload_n hx hy dL_law_534 rfl (lv_at hl 0 rfl) ?_
          refine lv_iconst (v := nI 2) hx hy dL_law_535 (by decide) ?_
          refine lv_iadd hx hy dL_law_536 ?_
          refine tI (nI_add (i) (2)) ?_
          refine slN F hI hB (i := i + 2) (by omega) dL_law_537 ?_
          refine zI hI (xV F hI hl (kX6_bit l E (v110) (X := Xv) (hp108.2.2.repM hRS.2.1 hRS.2.2) hRS.2.2 (xs (i + 1)) (xs (i + 2))) M_L_81 (rX6 F hI) rfl ⟨Nat.le_of_ble_eq_true rfl, Nat.le_of_ble_eq_true rfl⟩ ⟨hcl, hsl⟩ rfl (Nat.le_of_ble_eq_true rfl) dL_law_538) (fun r112 v113 H locs hI hp111 => ?_)
          refine lv_icmp_eq (tgt := 734) hx hy dL_law_541 (by decide) (fun h114 => ?_) (fun q => absurd (hp108.1.trans hp111.1.symm) q)
          refine lv_iinc (v := nI (i + 4)) (lv' := [(3, .int (nI (i + 4))), (0, .ref (b)), (1, .ref (eA E 0)), (2, .ref (eA E 48))]) hx hy dL_law_734 hl (k := 0) rfl (nI_add (i) 4) (by decide) rfl (fun ls hl => ?_)
          refine lv_goto (tgt := 18) hx hy dL_law_737 (by decide) ?_
          exact ih_18 (i + 4) v113 _ (by omega) (by omega) (RepS.step hRS.2.2 hRS.2.1 hp108.2 hp111.2 ((ok_q hRS.2.2).2.1 (xs (i + 1)) (xs (i + 2)))) _ _ _ hI (lv_sub hl [0, 1, 2, 3] rfl)
        · refine lv_tableIn (tgt := 546) hx hy dL_law_32 (by decide) (by decide) (by rfl) (by decide) ?_
          refine lv_aload_n hx hy dL_law_546 rfl (lv_at hl 2 rfl) ?_
          refine lv_aload_n hx hy dL_law_547 rfl (lv_at hl 1 rfl) ?_
          refine lv_iload_n hx hy dL_law_548 rfl (lv_at hl 0 rfl) ?_
          refine lv_iconst (v := nI 1) hx hy dL_law_549 (by decide) ?_
          refine lv_iadd hx hy dL_law_550 ?_
          refine tI (nI_add (i) (1)) ?_
          refine slN F hI hB (i := i + 1) (by omega) dL_law_551 ?_
          refine lv_aload_n hx hy dL_law_552 rfl (lv_at hl 1 rfl) ?_
          refine lv_iload_n hx hy dL_law_553 rfl (lv_at hl 0 rfl) ?_
          refine lv_iconst (v := nI 2) hx hy dL_law_554 (by decide) ?_
          refine lv_iadd hx hy dL_law_555 ?_
          refine tI (nI_add (i) (2)) ?_
          refine slN F hI hB (i := i + 2) (by omega) dL_law_556 ?_
          refine zI hI (xV F hI hl (kX5_overlap l E (wv) (X := Xv) hRS.1 hRS.2.2 (xs (i + 1)) (xs (i + 2))) M_L_82 (rX5 F hI) rfl ⟨Nat.le_of_ble_eq_true rfl, Nat.le_of_ble_eq_true rfl⟩ ⟨hcl, hsl⟩ rfl (Nat.le_of_ble_eq_true rfl) dL_law_557) (fun r116 v117 H locs hI hp115 => ?_)
          refine lv_aload_n hx hy dL_law_560 rfl (lv_at hl 3 rfl) ?_
          refine lv_aload_n hx hy dL_law_561 rfl (lv_at hl 1 rfl) ?_
          refine lv_iload_n hx hy dL_law_562 rfl (lv_at hl 0 rfl) ?_
          refine lv_iconst (v := nI 1) hx hy dL_law_563 (by decide) ?_
          refine lv_iadd hx hy dL_law_564 ?_
          refine tI (nI_add (i) (1)) ?_
          refine slN F hI hB (i := i + 1) (by omega) dL_law_565 ?_
          refine lv_aload_n hx hy dL_law_566 rfl (lv_at hl 1 rfl) ?_
          refine lv_iload_n hx hy dL_law_567 rfl (lv_at hl 0 rfl) ?_
          refine lv_iconst (v := nI 2) hx hy dL_law_568 (by decide) ?_
          refine lv_iadd hx hy dL_law_569 ?_
          refine tI (nI_add (i) (2)) ?_
          refine slN F hI hB (i := i + 2) (by omega) dL_law_570 ?_
          refine zI hI (xV F hI hl (kX6_overlap l E (v117) (X := Xv) (hp115.2.2.repM hRS.2.1 hRS.2.2) hRS.2.2 (xs (i + 1)) (xs (i + 2))) M_L_85 (rX6 F hI) rfl ⟨Nat.le_of_ble_eq_true rfl, Nat.le_of_ble_eq_true rfl⟩ ⟨hcl, hsl⟩ rfl (Nat.le_of_ble_eq_true rfl) dL_law_571) (fun r119 v120 H locs hI hp118 => ?_)
          refine lv_icmp_eq (tgt := 734) hx hy dL_law_574 (by decide) (fun h121 => ?_) (fun q => absurd (hp115.1.trans hp118.1.symm) q)
          refine lv_iinc (v := nI (i + 4)) (lv' := [(3, .int (nI (i + 4))), (0, .ref (b)), (1, .ref (eA E 0)), (2, .ref (eA E 48))]) hx hy dL_law_734 hl (k := 0) rfl (nI_add (i) 4) (by decide) rfl (fun ls hl => ?_)
          refine lv_goto (tgt := 18) hx hy dL_law_737 (by decide) ?_
          exact ih_18 (i + 4) v120 _ (by omega) (by omega) (RepS.step hRS.2.2 hRS.2.1 hp115.2 hp118.2 ((ok_q hRS.2.2).2.2.1 (xs (i + 1)) (xs (i + 2)))) _ _ _ hI (lv_sub hl [0, 1, 2, 3] rfl)
        · refine lv_tableIn (tgt := 579) hx hy dL_law_32 (by decide) (by decide) (by rfl) (by decide) ?_
          refine lv_aload_n hx hy dL_law_579 rfl (lv_at hl 2 rfl) ?_
          refine lv_aload_n hx hy dL_law_580 rfl (lv_at hl 1 rfl) ?_
          refine lv_iload_n hx hy dL_law_581 rfl (lv_at hl 0 rfl) ?_
          refine lv_iconst (v := nI 1) hx hy dL_law_582 (by decide) ?_
          refine lv_iadd hx hy dL_law_583 ?_
          refine tI (nI_add (i) (1)) ?_
          refine slN F hI hB (i := i + 1) (by omega) dL_law_584 ?_
          refine lv_aload_n hx hy dL_law_585 rfl (lv_at hl 1 rfl) ?_
          refine lv_iload_n hx hy dL_law_586 rfl (lv_at hl 0 rfl) ?_
          refine lv_iconst (v := nI 2) hx hy dL_law_587 (by decide) ?_
          refine lv_iadd hx hy dL_law_588 ?_
          refine tI (nI_add (i) (2)) ?_
          refine slN F hI hB (i := i + 2) (by omega) dL_law_589 ?_
          refine zI hI (xV F hI hl (kX5_errorAt l E (wv) (X := Xv) hRS.1 hRS.2.2 (xs (i + 1)) (xs (i + 2))) M_L_86 (rX5 F hI) rfl ⟨Nat.le_of_ble_eq_true rfl, Nat.le_of_ble_eq_true rfl⟩ ⟨hcl, hsl⟩ rfl (Nat.le_of_ble_eq_true rfl) dL_law_590) (fun r123 v124 H locs hI hp122 => ?_)
          refine lv_aload_n hx hy dL_law_593 rfl (lv_at hl 3 rfl) ?_
          refine lv_aload_n hx hy dL_law_594 rfl (lv_at hl 1 rfl) ?_
          refine lv_iload_n hx hy dL_law_595 rfl (lv_at hl 0 rfl) ?_
          refine lv_iconst (v := nI 1) hx hy dL_law_596 (by decide) ?_
          refine lv_iadd hx hy dL_law_597 ?_
          refine tI (nI_add (i) (1)) ?_
          refine slN F hI hB (i := i + 1) (by omega) dL_law_598 ?_
          refine lv_aload_n hx hy dL_law_599 rfl (lv_at hl 1 rfl) ?_
          refine lv_iload_n hx hy dL_law_600 rfl (lv_at hl 0 rfl) ?_
          refine lv_iconst (v := nI 2) hx hy dL_law_601 (by decide) ?_
          refine lv_iadd hx hy dL_law_602 ?_
          refine tI (nI_add (i) (2)) ?_
          refine slN F hI hB (i := i + 2) (by omega) dL_law_603 ?_
          refine zI hI (xV F hI hl (kX6_errorAt l E (v124) (X := Xv) (hp122.2.2.repM hRS.2.1 hRS.2.2) hRS.2.2 (xs (i + 1)) (xs (i + 2))) M_L_89 (rX6 F hI) rfl ⟨Nat.le_of_ble_eq_true rfl, Nat.le_of_ble_eq_true rfl⟩ ⟨hcl, hsl⟩ rfl (Nat.le_of_ble_eq_true rfl) dL_law_604) (fun r126 v127 H locs hI hp125 => ?_)
          refine lv_icmp_eq (tgt := 734) hx hy dL_law_607 (by decide) (fun h128 => ?_) (fun q => absurd (hp122.1.trans hp125.1.symm) q)
          refine lv_iinc (v := nI (i + 4)) (lv' := [(3, .int (nI (i + 4))), (0, .ref (b)), (1, .ref (eA E 0)), (2, .ref (eA E 48))]) hx hy dL_law_734 hl (k := 0) rfl (nI_add (i) 4) (by decide) rfl (fun ls hl => ?_)
          refine lv_goto (tgt := 18) hx hy dL_law_737 (by decide) ?_
          exact ih_18 (i + 4) v127 _ (by omega) (by omega) (RepS.step hRS.2.2 hRS.2.1 hp122.2 hp125.2 ((ok_q hRS.2.2).2.2.2.1 (xs (i + 1)) (xs (i + 2)))) _ _ _ hI (lv_sub hl [0, 1, 2, 3] rfl)
        · refine lv_tableIn (tgt := 612) hx hy dL_law_32 (by decide) (by decide) (by rfl) (by decide) ?_
          refine lv_aload_n hx hy dL_law_612 rfl (lv_at hl 2 rfl) ?_
          refine lv_aload_n hx hy dL_law_613 rfl (lv_at hl 1 rfl) ?_
          refine lv_iload_n hx hy dL_law_614 rfl (lv_at hl 0 rfl) ?_
          refine lv_iconst (v := nI 1) hx hy dL_law_615 (by decide) ?_
          refine lv_iadd hx hy dL_law_616 ?_
          refine tI (nI_add (i) (1)) ?_
          refine slN F hI hB (i := i + 1) (by omega) dL_law_617 ?_
          refine lv_aload_n hx hy dL_law_618 rfl (lv_at hl 1 rfl) ?_
          refine lv_iload_n hx hy dL_law_619 rfl (lv_at hl 0 rfl) ?_
          refine lv_iconst (v := nI 2) hx hy dL_law_620 (by decide) ?_
          refine lv_iadd hx hy dL_law_621 ?_
          refine tI (nI_add (i) (2)) ?_
          refine slN F hI hB (i := i + 2) (by omega) dL_law_622 ?_
          refine zI hI (xV F hI hl (kX5_settles l E (wv) (X := Xv) hRS.1 hRS.2.2 (xs (i + 1)) (xs (i + 2))) M_L_90 (rX5 F hI) rfl ⟨Nat.le_of_ble_eq_true rfl, Nat.le_of_ble_eq_true rfl⟩ ⟨hcl, hsl⟩ rfl (Nat.le_of_ble_eq_true rfl) dL_law_623) (fun r130 v131 H locs hI hp129 => ?_)
          refine lv_aload_n hx hy dL_law_626 rfl (lv_at hl 3 rfl) ?_
          refine lv_aload_n hx hy dL_law_627 rfl (lv_at hl 1 rfl) ?_
          refine lv_iload_n hx hy dL_law_628 rfl (lv_at hl 0 rfl) ?_
          refine lv_iconst (v := nI 1) hx hy dL_law_629 (by decide) ?_
          refine lv_iadd hx hy dL_law_630 ?_
          refine tI (nI_add (i) (1)) ?_
          refine slN F hI hB (i := i + 1) (by omega) dL_law_631 ?_
          refine lv_aload_n hx hy dL_law_632 rfl (lv_at hl 1 rfl) ?_
          refine lv_iload_n hx hy dL_law_633 rfl (lv_at hl 0 rfl) ?_
          refine lv_iconst (v := nI 2) hx hy dL_law_634 (by decide) ?_
          refine lv_iadd hx hy dL_law_635 ?_
          refine tI (nI_add (i) (2)) ?_
          refine slN F hI hB (i := i + 2) (by omega) dL_law_636 ?_
          refine zI hI (xV F hI hl (kX6_settles l E (v131) (X := Xv) (hp129.2.2.repM hRS.2.1 hRS.2.2) hRS.2.2 (xs (i + 1)) (xs (i + 2))) M_L_93 (rX6 F hI) rfl ⟨Nat.le_of_ble_eq_true rfl, Nat.le_of_ble_eq_true rfl⟩ ⟨hcl, hsl⟩ rfl (Nat.le_of_ble_eq_true rfl) dL_law_637) (fun r133 v134 H locs hI hp132 => ?_)
          refine lv_icmp_eq (tgt := 734) hx hy dL_law_640 (by decide) (fun h135 => ?_) (fun q => absurd (hp129.1.trans hp132.1.symm) q)
          refine lv_iinc (v := nI (i + 4)) (lv' := [(3, .int (nI (i + 4))), (0, .ref (b)), (1, .ref (eA E 0)), (2, .ref (eA E 48))]) hx hy dL_law_734 hl (k := 0) rfl (nI_add (i) 4) (by decide) rfl (fun ls hl => ?_)
          refine lv_goto (tgt := 18) hx hy dL_law_737 (by decide) ?_
          exact ih_18 (i + 4) v134 _ (by omega) (by omega) (RepS.step hRS.2.2 hRS.2.1 hp129.2 hp132.2 ((ok_q hRS.2.2).2.2.2.2.1 (xs (i + 1)) (xs (i + 2)))) _ _ _ hI (lv_sub hl [0, 1, 2, 3] rfl)
        · refine lv_tableIn (tgt := 645) hx hy dL_law_32 (by decide) (by decide) (by rfl) (by decide) ?_
          refine lv_aload_n hx hy dL_law_645 rfl (lv_at hl 2 rfl) ?_
          refine lv_aload_n hx hy dL_law_646 rfl (lv_at hl 1 rfl) ?_
          refine lv_iload_n hx hy dL_law_647 rfl (lv_at hl 0 rfl) ?_
          refine lv_iconst (v := nI 1) hx hy dL_law_648 (by decide) ?_
          refine lv_iadd hx hy dL_law_649 ?_
          refine tI (nI_add (i) (1)) ?_
          refine slN F hI hB (i := i + 1) (by omega) dL_law_650 ?_
          refine lv_aload_n hx hy dL_law_651 rfl (lv_at hl 1 rfl) ?_
          refine lv_iload_n hx hy dL_law_652 rfl (lv_at hl 0 rfl) ?_
          refine lv_iconst (v := nI 2) hx hy dL_law_653 (by decide) ?_
          refine lv_iadd hx hy dL_law_654 ?_
          refine tI (nI_add (i) (2)) ?_
          refine slN F hI hB (i := i + 2) (by omega) dL_law_655 ?_
          refine lv_aload_n hx hy dL_law_656 rfl (lv_at hl 1 rfl) ?_
          refine lv_iload_n hx hy dL_law_657 rfl (lv_at hl 0 rfl) ?_
          refine lv_iconst (v := nI 3) hx hy dL_law_658 (by decide) ?_
          refine lv_iadd hx hy dL_law_659 ?_
          refine tI (nI_add (i) (3)) ?_
          refine slN F hI hB (i := i + 3) (by omega) dL_law_660 ?_
          refine zI hI (xV F hI hl (kX5_bestSeed l E (wv) (X := Xv) hRS.1 hRS.2.2 (xs (i + 1)) (xs (i + 2)) (xs (i + 3))) M_L_94 (rX5 F hI) rfl ⟨Nat.le_of_ble_eq_true rfl, Nat.le_of_ble_eq_true rfl⟩ ⟨hcl, hsl⟩ rfl (Nat.le_of_ble_eq_true rfl) dL_law_661) (fun r137 v138 H locs hI hp136 => ?_)
          refine lv_aload_n hx hy dL_law_664 rfl (lv_at hl 3 rfl) ?_
          refine lv_aload_n hx hy dL_law_665 rfl (lv_at hl 1 rfl) ?_
          refine lv_iload_n hx hy dL_law_666 rfl (lv_at hl 0 rfl) ?_
          refine lv_iconst (v := nI 1) hx hy dL_law_667 (by decide) ?_
          refine lv_iadd hx hy dL_law_668 ?_
          refine tI (nI_add (i) (1)) ?_
          refine slN F hI hB (i := i + 1) (by omega) dL_law_669 ?_
          refine lv_aload_n hx hy dL_law_670 rfl (lv_at hl 1 rfl) ?_
          refine lv_iload_n hx hy dL_law_671 rfl (lv_at hl 0 rfl) ?_
          refine lv_iconst (v := nI 2) hx hy dL_law_672 (by decide) ?_
          refine lv_iadd hx hy dL_law_673 ?_
          refine tI (nI_add (i) (2)) ?_
          refine slN F hI hB (i := i + 2) (by omega) dL_law_674 ?_
          refine lv_aload_n hx hy dL_law_675 rfl (lv_at hl 1 rfl) ?_
          refine lv_iload_n hx hy dL_law_676 rfl (lv_at hl 0 rfl) ?_
          refine lv_iconst (v := nI 3) hx hy dL_law_677 (by decide) ?_
          refine lv_iadd hx hy dL_law_678 ?_
          refine tI (nI_add (i) (3)) ?_
          refine slN F hI hB (i := i + 3) (by omega) dL_law_679 ?_
          refine zI hI (xV F hI hl (kX6_bestSeed l E (v138) (X := Xv) (hp136.2.2.repM hRS.2.1 hRS.2.2) hRS.2.2 (xs (i + 1)) (xs (i + 2)) (xs (i + 3))) M_L_97 (rX6 F hI) rfl ⟨Nat.le_of_ble_eq_true rfl, Nat.le_of_ble_eq_true rfl⟩ ⟨hcl, hsl⟩ rfl (Nat.le_of_ble_eq_true rfl) dL_law_680) (fun r140 v141 H locs hI hp139 => ?_)
          refine lv_icmp_eq (tgt := 734) hx hy dL_law_683 (by decide) (fun h142 => ?_) (fun q => absurd (hp136.1.trans hp139.1.symm) q)
          refine lv_iinc (v := nI (i + 4)) (lv' := [(3, .int (nI (i + 4))), (0, .ref (b)), (1, .ref (eA E 0)), (2, .ref (eA E 48))]) hx hy dL_law_734 hl (k := 0) rfl (nI_add (i) 4) (by decide) rfl (fun ls hl => ?_)
          refine lv_goto (tgt := 18) hx hy dL_law_737 (by decide) ?_
          exact ih_18 (i + 4) v141 _ (by omega) (by omega) (RepS.step hRS.2.2 hRS.2.1 hp136.2 hp139.2 ((ok_q hRS.2.2).2.2.2.2.2.1 (xs (i + 1)) (xs (i + 2)) (xs (i + 3)))) _ _ _ hI (lv_sub hl [0, 1, 2, 3] rfl)
        · refine lv_tableIn (tgt := 688) hx hy dL_law_32 (by decide) (by decide) (by rfl) (by decide) ?_
          refine lv_aload_n hx hy dL_law_688 rfl (lv_at hl 2 rfl) ?_
          refine lv_aload_n hx hy dL_law_689 rfl (lv_at hl 1 rfl) ?_
          refine lv_iload_n hx hy dL_law_690 rfl (lv_at hl 0 rfl) ?_
          refine lv_iconst (v := nI 1) hx hy dL_law_691 (by decide) ?_
          refine lv_iadd hx hy dL_law_692 ?_
          refine tI (nI_add (i) (1)) ?_
          refine slN F hI hB (i := i + 1) (by omega) dL_law_693 ?_
          refine zI hI (xV F hI hl (kX5_unlike l E (wv) (X := Xv) hRS.1 hRS.2.2 (xs (i + 1))) M_L_98 (rX5 F hI) rfl ⟨Nat.le_of_ble_eq_true rfl, Nat.le_of_ble_eq_true rfl⟩ ⟨hcl, hsl⟩ rfl (Nat.le_of_ble_eq_true rfl) dL_law_694) (fun r144 v145 H locs hI hp143 => ?_)
          refine lv_aload_n hx hy dL_law_697 rfl (lv_at hl 3 rfl) ?_
          refine lv_aload_n hx hy dL_law_698 rfl (lv_at hl 1 rfl) ?_
          refine lv_iload_n hx hy dL_law_699 rfl (lv_at hl 0 rfl) ?_
          refine lv_iconst (v := nI 1) hx hy dL_law_700 (by decide) ?_
          refine lv_iadd hx hy dL_law_701 ?_
          refine tI (nI_add (i) (1)) ?_
          refine slN F hI hB (i := i + 1) (by omega) dL_law_702 ?_
          refine zI hI (xV F hI hl (kX6_unlike l E (v145) (X := Xv) (hp143.2.2.repM hRS.2.1 hRS.2.2) hRS.2.2 (xs (i + 1))) M_L_101 (rX6 F hI) rfl ⟨Nat.le_of_ble_eq_true rfl, Nat.le_of_ble_eq_true rfl⟩ ⟨hcl, hsl⟩ rfl (Nat.le_of_ble_eq_true rfl) dL_law_703) (fun r147 v148 H locs hI hp146 => ?_)
          refine lv_icmp_eq (tgt := 734) hx hy dL_law_706 (by decide) (fun h149 => ?_) (fun q => absurd (hp143.1.trans hp146.1.symm) q)
          refine lv_iinc (v := nI (i + 4)) (lv' := [(3, .int (nI (i + 4))), (0, .ref (b)), (1, .ref (eA E 0)), (2, .ref (eA E 48))]) hx hy dL_law_734 hl (k := 0) rfl (nI_add (i) 4) (by decide) rfl (fun ls hl => ?_)
          refine lv_goto (tgt := 18) hx hy dL_law_737 (by decide) ?_
          exact ih_18 (i + 4) v148 _ (by omega) (by omega) (RepS.step hRS.2.2 hRS.2.1 hp143.2 hp146.2 ((ok_q hRS.2.2).2.2.2.2.2.2.1 (xs (i + 1)))) _ _ _ hI (lv_sub hl [0, 1, 2, 3] rfl)
        · refine lv_tableIn (tgt := 711) hx hy dL_law_32 (by decide) (by decide) (by rfl) (by decide) ?_
          refine lv_aload_n hx hy dL_law_711 rfl (lv_at hl 2 rfl) ?_
          refine lv_aload_n hx hy dL_law_712 rfl (lv_at hl 1 rfl) ?_
          refine lv_iload_n hx hy dL_law_713 rfl (lv_at hl 0 rfl) ?_
          refine lv_iconst (v := nI 1) hx hy dL_law_714 (by decide) ?_
          refine lv_iadd hx hy dL_law_715 ?_
          refine tI (nI_add (i) (1)) ?_
          refine slN F hI hB (i := i + 1) (by omega) dL_law_716 ?_
          refine zI hI (xV F hI hl (kX5_count l E (wv) (X := Xv) hRS.1 hRS.2.2 (xs (i + 1))) M_L_102 (rX5 F hI) rfl ⟨Nat.le_of_ble_eq_true rfl, Nat.le_of_ble_eq_true rfl⟩ ⟨hcl, hsl⟩ rfl (Nat.le_of_ble_eq_true rfl) dL_law_717) (fun r151 v152 H locs hI hp150 => ?_)
          refine lv_aload_n hx hy dL_law_720 rfl (lv_at hl 3 rfl) ?_
          refine lv_aload_n hx hy dL_law_721 rfl (lv_at hl 1 rfl) ?_
          refine lv_iload_n hx hy dL_law_722 rfl (lv_at hl 0 rfl) ?_
          refine lv_iconst (v := nI 1) hx hy dL_law_723 (by decide) ?_
          refine lv_iadd hx hy dL_law_724 ?_
          refine tI (nI_add (i) (1)) ?_
          refine slN F hI hB (i := i + 1) (by omega) dL_law_725 ?_
          refine zI hI (xV F hI hl (kX6_count l E (v152) (X := Xv) (hp150.2.2.repM hRS.2.1 hRS.2.2) hRS.2.2 (xs (i + 1))) M_L_105 (rX6 F hI) rfl ⟨Nat.le_of_ble_eq_true rfl, Nat.le_of_ble_eq_true rfl⟩ ⟨hcl, hsl⟩ rfl (Nat.le_of_ble_eq_true rfl) dL_law_726) (fun r154 v155 H locs hI hp153 => ?_)
          refine lv_icmp_eq (tgt := 734) hx hy dL_law_729 (by decide) (fun h156 => ?_) (fun q => absurd (hp150.1.trans hp153.1.symm) q)
          refine lv_iinc (v := nI (i + 4)) (lv' := [(3, .int (nI (i + 4))), (0, .ref (b)), (1, .ref (eA E 0)), (2, .ref (eA E 48))]) hx hy dL_law_734 hl (k := 0) rfl (nI_add (i) 4) (by decide) rfl (fun ls hl => ?_)
          refine lv_goto (tgt := 18) hx hy dL_law_737 (by decide) ?_
          exact ih_18 (i + 4) v155 _ (by omega) (by omega) (RepS.step hRS.2.2 hRS.2.1 hp150.2 hp153.2 ((ok_q hRS.2.2).2.2.2.2.2.2.2 (xs (i + 1)))) _ _ _ hI (lv_sub hl [0, 1, 2, 3] rfl)
        · refine lv_tableOut (tgt := 734) hx hy dL_law_32 (sw_out ho22 hn32) (by decide) ?_
          refine lv_iinc (v := nI (i + 4)) (lv' := [(3, .int (nI (i + 4))), (0, .ref (b)), (1, .ref (eA E 0)), (2, .ref (eA E 48))]) hx hy dL_law_734 hl (k := 0) rfl (nI_add (i) 4) (by decide) rfl (fun ls hl => ?_)
          refine lv_goto (tgt := 18) hx hy dL_law_737 (by decide) ?_
          exact ih_18 (i + 4) wv Xv (by omega) (by omega) hRS _ _ _ hI (lv_sub hl [0, 1, 2, 3] rfl)
  exact lp1 (L + 1) 0 u X (by omega) (by omega) h0 _ _ _ hI (lv_sub hl [0, 1, 2, 3] rfl)
