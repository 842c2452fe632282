set_option maxHeartbeats 400000 in
set_option maxRecDepth 100000 in
theorem sg921 {p : Program} {l : Launch} {e : Env} {s : State} {m : MethodId} {args : Array Value} {below : List Frame} {meth : Method} {co : Code} {H : Heap} {locs : List Loc} {ls : Array Slot} {Q : State → Prop} {E0 E1 E2 : EV} {u w : SS} {X Y : XS} (hQ : MQ below (Q2 E0 E1 E2 P2) args s 0 0 (eR E0) = Q) (F : Fx E0 p s m args meth co cL_isStep 13 RL (some .boolean)) (hT : Two E0 E1 E2) (hI : Iv2 E0 E1 E2 s H locs u w) (hCa : RepC u.1 X) (hCb : RepC w.1 Y) (hR : Rl X Y) (x y z : Int32) (n i j k : Nat) (hn : X.1.1 = n) (hi : i < n + 1) (hj : j < n + 1) (hk3 : k < n + 1) (hl : lv_has ls 13 [(0, .ref (eA E1 0)), (1, .ref (eA E2 0)), (2, .int (x)), (3, .int (y)), (4, .int (nI n)), (5, .int (z)), (6, .int (nI i)), (7, .int (nI j)), (8, .int (nI k))]) : W p l e (Rm 9 221) s m args below meth co H locs 0 0 Q (F0 m 921 ls []) := by
  have hx := F.1
  have hy := F.2.1
  have hXa := hR.1
  have hXb := hR.2.1
  have h8 := hR.2.2.1
  have hYn := hR.2.2.2.1
  have hYl := hR.2.2.2.2.1
  have hl1 := hXa.1.2.1
  have hl2 := hXa.1.2.2.1
  refine lv_iconst (v := nI 1) hx hy dL_isStep_921 (by decide) ?_
  refine lv_iload_n hx hy dL_isStep_922 rfl (lv_at hl 3 rfl) ?_
  refine lv_iload hx hy dL_isStep_923 (lv_at hl 5 rfl) ?_
  refine lv_iconst (v := nI 4) hx hy dL_isStep_925 (by decide) ?_
  refine za hT hI (xSa F hT hI hl (kL_up l E1 u z 4 (by omega) (by omega)) M_L_15 rfl ⟨Nat.le_of_ble_eq_true rfl, Nat.le_of_ble_eq_true rfl⟩ ⟨Nat.zero_le _, Nat.zero_le _⟩ rfl (Nat.le_of_ble_eq_true rfl) dL_isStep_926) (fun r2 v3 H locs hI hp1 => ?_)
  obtain ⟨g, hg, hp1⟩ := hp1
  subst hp1
  have hI : Iv2 E0 E1 E2 s H locs u w := hI
  refine lv_if_ne (tgt := 938) hx hy dL_isStep_929 (by decide) (fun h4 => ?_) (fun h4 => ?_)
  · have h4 : g ≠ 0 := fun q9 => h4 ((nI_eq (a := g) (b := 0) (by omega) (by omega)).mpr q9)
    refine lv_sipush (v := nI 200) hx hy dL_isStep_938 (by decide) ?_
    refine za hT hI (xSa F hT hI hl (kL_up l E1 u y 200 (by omega) (by omega)) M_L_15 rfl ⟨Nat.le_of_ble_eq_true rfl, Nat.le_of_ble_eq_true rfl⟩ ⟨Nat.zero_le _, Nat.zero_le _⟩ rfl (Nat.le_of_ble_eq_true rfl) dL_isStep_941) (fun r6 v7 H locs hI hp5 => ?_)
    obtain ⟨ll, hll, hp5⟩ := hp5
    subst hp5
    have hI : Iv2 E0 E1 E2 s H locs u w := hI
    refine lv_iadd hx hy dL_isStep_944 ?_
    refine tI (nI_add (1) (ll)) ?_
    refine lv_istore (lv' := [(10, .int (nI (1 + ll))), (0, .ref (eA E1 0)), (1, .ref (eA E2 0)), (2, .int (x)), (3, .int (y)), (4, .int (nI n)), (5, .int (z)), (6, .int (nI i)), (7, .int (nI j)), (8, .int (nI k))]) hx hy dL_isStep_945 hl (by decide) rfl (fun ls hl => ?_)
    by_cases he : X.1.2.1 = 1 + ll
    · have heb : Y.1.2.1 = 1 + ll := hYl.trans he
      refine lv_aload_n hx hy dL_isStep_947 rfl (lv_at hl 1 rfl) ?_
      refine lv_iload hx hy dL_isStep_948 (lv_at hl 0 rfl) ?_
      refine za hT hI (xVa F hT hI hl (kX5_setLength l E1 u (X := X) hCa hXa (nI (1 + ll))) M_L_52 (rX5a F hT hI) rfl ⟨Nat.le_of_ble_eq_true rfl, Nat.le_of_ble_eq_true rfl⟩ ⟨Nat.zero_le _, Nat.zero_le _⟩ rfl (Nat.le_of_ble_eq_true rfl) dL_isStep_950) (fun r9 v10 H locs hI hp8 => ?_)
      obtain ⟨hq11, hC12⟩ := t_setLength_no hp8 (by omega) (by omega) he
      refine tI (show _ = (-100000005 : Int32) from hq11) ?_
      refine lv_aload_n hx hy dL_isStep_953 rfl (lv_at hl 2 rfl) ?_
      refine lv_iload hx hy dL_isStep_954 (lv_at hl 0 rfl) ?_
      refine zb hT hI (xVb F hT hI hl (kX5_setLength l E2 w (X := Y) hCb hXb (nI (1 + ll))) M_L_52 (rX5b F hT hI) rfl ⟨Nat.le_of_ble_eq_true rfl, Nat.le_of_ble_eq_true rfl⟩ ⟨Nat.zero_le _, Nat.zero_le _⟩ rfl (Nat.le_of_ble_eq_true rfl) dL_isStep_956) (fun r15 v16 H locs hI hp14 => ?_)
      obtain ⟨hq17, hC18⟩ := t_setLength_no hp14 (by omega) (by omega) heb
      refine tI (show _ = (-100000005 : Int32) from hq17) ?_
      refine lv_icmp_ne (tgt := 976) hx hy dL_isStep_959 (by decide) (fun q => absurd q (by decide)) (fun _ => ?_)
      refine lv_aload_n hx hy dL_isStep_962 rfl (lv_at hl 1 rfl) ?_
      refine lv_iconst (v := nI 1) hx hy dL_isStep_963 (by decide) ?_
      refine za hT hI (xVa F hT hI hl (kX5_count l E1 v10 (X := X) hC12 hXa (nI 1)) M_L_9 (rX5a F hT hI) rfl ⟨Nat.le_of_ble_eq_true rfl, Nat.le_of_ble_eq_true rfl⟩ ⟨Nat.zero_le _, Nat.zero_le _⟩ rfl (Nat.le_of_ble_eq_true rfl) dL_isStep_964) (fun r21 v22 H locs hI hp20 => ?_)
      obtain ⟨hq23, hC24⟩ := q_count hp20 (by decide)
      refine tI (show _ = nI (X.1.2.1) from hq23) ?_
      refine lv_iload hx hy dL_isStep_967 (lv_at hl 0 rfl) ?_
      refine lv_icmp_ne (tgt := 976) hx hy dL_isStep_969 (by decide) (fun q => absurd (congrArg nI he) q) (fun h25 => ?_)
      refine lv_iconst (v := nI 1) hx hy dL_isStep_972 (by decide) ?_
      refine lv_goto (tgt := 977) hx hy dL_isStep_973 (by decide) ?_
      exact rZ2 hQ F rfl hI dL_isStep_977 ⟨rfl, X, Y, hR, hC24, hC18⟩
    · have heb : Y.1.2.1 ≠ 1 + ll := fun q9 => he (hYl.symm.trans q9)
      refine lv_aload_n hx hy dL_isStep_947 rfl (lv_at hl 1 rfl) ?_
      refine lv_iload hx hy dL_isStep_948 (lv_at hl 0 rfl) ?_
      refine za hT hI (xVa F hT hI hl (kX5_setLength l E1 u (X := X) hCa hXa (nI (1 + ll))) M_L_52 (rX5a F hT hI) rfl ⟨Nat.le_of_ble_eq_true rfl, Nat.le_of_ble_eq_true rfl⟩ ⟨Nat.zero_le _, Nat.zero_le _⟩ rfl (Nat.le_of_ble_eq_true rfl) dL_isStep_950) (fun r27 v28 H locs hI hp26 => ?_)
      obtain ⟨hq29, hC30, hX31⟩ := t_setLength hp26 hXa (by omega) (by omega) he
      refine tI (show _ = nI (X.1.2.1) from hq29) ?_
      refine lv_aload_n hx hy dL_isStep_953 rfl (lv_at hl 2 rfl) ?_
      refine lv_iload hx hy dL_isStep_954 (lv_at hl 0 rfl) ?_
      refine zb hT hI (xVb F hT hI hl (kX5_setLength l E2 w (X := Y) hCb hXb (nI (1 + ll))) M_L_52 (rX5b F hT hI) rfl ⟨Nat.le_of_ble_eq_true rfl, Nat.le_of_ble_eq_true rfl⟩ ⟨Nat.zero_le _, Nat.zero_le _⟩ rfl (Nat.le_of_ble_eq_true rfl) dL_isStep_956) (fun r33 v34 H locs hI hp32 => ?_)
      obtain ⟨hq35, hC36, hX37⟩ := t_setLength hp32 hXb (by omega) (by omega) heb
      refine tI (show _ = nI (Y.1.2.1) from hq35) ?_
      refine lv_icmp_ne (tgt := 976) hx hy dL_isStep_959 (by decide) (fun q => absurd (congrArg nI hYl.symm) q) (fun h38 => ?_)
      refine lv_aload_n hx hy dL_isStep_962 rfl (lv_at hl 1 rfl) ?_
      refine lv_iconst (v := nI 1) hx hy dL_isStep_963 (by decide) ?_
      refine za hT hI (xVa F hT hI hl (kX5_count l E1 v28 (X := (lenS X (1 + ll))) hC30 hX31 (nI 1)) M_L_9 (rX5a F hT hI) rfl ⟨Nat.le_of_ble_eq_true rfl, Nat.le_of_ble_eq_true rfl⟩ ⟨Nat.zero_le _, Nat.zero_le _⟩ rfl (Nat.le_of_ble_eq_true rfl) dL_isStep_964) (fun r40 v41 H locs hI hp39 => ?_)
      obtain ⟨hq42, hC43⟩ := q_count hp39 (by decide)
      refine tI (show _ = nI ((lenS X (1 + ll)).1.2.1) from hq42) ?_
      refine lv_iload hx hy dL_isStep_967 (lv_at hl 0 rfl) ?_
      refine lv_icmp_ne (tgt := 976) hx hy dL_isStep_969 (by decide) (fun q => absurd rfl q) (fun h44 => ?_)
      refine lv_iconst (v := nI 1) hx hy dL_isStep_972 (by decide) ?_
      refine lv_goto (tgt := 977) hx hy dL_isStep_973 (by decide) ?_
      exact rZ2 hQ F rfl hI dL_isStep_977 ⟨rfl, _, _, hR.len hX31 hX37, hC43, hC36⟩
  · have h4 : g = 0 := (nI_eq (a := g) (b := 0) (by omega) (by omega)).mp h4
    refine lv_sipush (v := nI 1000) hx hy dL_isStep_932 (by decide) ?_
    refine lv_goto (tgt := 941) hx hy dL_isStep_935 (by decide) ?_
    refine za hT hI (xSa F hT hI hl (kL_up l E1 u y 1000 (by omega) (by omega)) M_L_15 rfl ⟨Nat.le_of_ble_eq_true rfl, Nat.le_of_ble_eq_true rfl⟩ ⟨Nat.zero_le _, Nat.zero_le _⟩ rfl (Nat.le_of_ble_eq_true rfl) dL_isStep_941) (fun r46 v47 H locs hI hp45 => ?_)
    obtain ⟨ll, hll, hp45⟩ := hp45
    subst hp45
    have hI : Iv2 E0 E1 E2 s H locs u w := hI
    refine lv_iadd hx hy dL_isStep_944 ?_
    refine tI (nI_add (1) (ll)) ?_
    refine lv_istore (lv' := [(10, .int (nI (1 + ll))), (0, .ref (eA E1 0)), (1, .ref (eA E2 0)), (2, .int (x)), (3, .int (y)), (4, .int (nI n)), (5, .int (z)), (6, .int (nI i)), (7, .int (nI j)), (8, .int (nI k))]) hx hy dL_isStep_945 hl (by decide) rfl (fun ls hl => ?_)
    by_cases he : X.1.2.1 = 1 + ll
    · have heb : Y.1.2.1 = 1 + ll := hYl.trans he
      refine lv_aload_n hx hy dL_isStep_947 rfl (lv_at hl 1 rfl) ?_
      refine lv_iload hx hy dL_isStep_948 (lv_at hl 0 rfl) ?_
      refine za hT hI (xVa F hT hI hl (kX5_setLength l E1 u (X := X) hCa hXa (nI (1 + ll))) M_L_52 (rX5a F hT hI) rfl ⟨Nat.le_of_ble_eq_true rfl, Nat.le_of_ble_eq_true rfl⟩ ⟨Nat.zero_le _, Nat.zero_le _⟩ rfl (Nat.le_of_ble_eq_true rfl) dL_isStep_950) (fun r49 v50 H locs hI hp48 => ?_)
      obtain ⟨hq51, hC52⟩ := t_setLength_no hp48 (by omega) (by omega) he
      refine tI (show _ = (-100000005 : Int32) from hq51) ?_
      refine lv_aload_n hx hy dL_isStep_953 rfl (lv_at hl 2 rfl) ?_
      refine lv_iload hx hy dL_isStep_954 (lv_at hl 0 rfl) ?_
      refine zb hT hI (xVb F hT hI hl (kX5_setLength l E2 w (X := Y) hCb hXb (nI (1 + ll))) M_L_52 (rX5b F hT hI) rfl ⟨Nat.le_of_ble_eq_true rfl, Nat.le_of_ble_eq_true rfl⟩ ⟨Nat.zero_le _, Nat.zero_le _⟩ rfl (Nat.le_of_ble_eq_true rfl) dL_isStep_956) (fun r55 v56 H locs hI hp54 => ?_)
      obtain ⟨hq57, hC58⟩ := t_setLength_no hp54 (by omega) (by omega) heb
      refine tI (show _ = (-100000005 : Int32) from hq57) ?_
      refine lv_icmp_ne (tgt := 976) hx hy dL_isStep_959 (by decide) (fun q => absurd q (by decide)) (fun _ => ?_)
      refine lv_aload_n hx hy dL_isStep_962 rfl (lv_at hl 1 rfl) ?_
      refine lv_iconst (v := nI 1) hx hy dL_isStep_963 (by decide) ?_
      refine za hT hI (xVa F hT hI hl (kX5_count l E1 v50 (X := X) hC52 hXa (nI 1)) M_L_9 (rX5a F hT hI) rfl ⟨Nat.le_of_ble_eq_true rfl, Nat.le_of_ble_eq_true rfl⟩ ⟨Nat.zero_le _, Nat.zero_le _⟩ rfl (Nat.le_of_ble_eq_true rfl) dL_isStep_964) (fun r61 v62 H locs hI hp60 => ?_)
      obtain ⟨hq63, hC64⟩ := q_count hp60 (by decide)
      refine tI (show _ = nI (X.1.2.1) from hq63) ?_
      refine lv_iload hx hy dL_isStep_967 (lv_at hl 0 rfl) ?_
      refine lv_icmp_ne (tgt := 976) hx hy dL_isStep_969 (by decide) (fun q => absurd (congrArg nI he) q) (fun h65 => ?_)
      refine lv_iconst (v := nI 1) hx hy dL_isStep_972 (by decide) ?_
      refine lv_goto (tgt := 977) hx hy dL_isStep_973 (by decide) ?_
      exact rZ2 hQ F rfl hI dL_isStep_977 ⟨rfl, X, Y, hR, hC64, hC58⟩
    · have heb : Y.1.2.1 ≠ 1 + ll := fun q9 => he (hYl.symm.trans q9)
      refine lv_aload_n hx hy dL_isStep_947 rfl (lv_at hl 1 rfl) ?_
      refine lv_iload hx hy dL_isStep_948 (lv_at hl 0 rfl) ?_
      refine za hT hI (xVa F hT hI hl (kX5_setLength l E1 u (X := X) hCa hXa (nI (1 + ll))) M_L_52 (rX5a F hT hI) rfl ⟨Nat.le_of_ble_eq_true rfl, Nat.le_of_ble_eq_true rfl⟩ ⟨Nat.zero_le _, Nat.zero_le _⟩ rfl (Nat.le_of_ble_eq_true rfl) dL_isStep_950) (fun r67 v68 H locs hI hp66 => ?_)
      obtain ⟨hq69, hC70, hX71⟩ := t_setLength hp66 hXa (by omega) (by omega) he
      refine tI (show _ = nI (X.1.2.1) from hq69) ?_
      refine lv_aload_n hx hy dL_isStep_953 rfl (lv_at hl 2 rfl) ?_
      refine lv_iload hx hy dL_isStep_954 (lv_at hl 0 rfl) ?_
      refine zb hT hI (xVb F hT hI hl (kX5_setLength l E2 w (X := Y) hCb hXb (nI (1 + ll))) M_L_52 (rX5b F hT hI) rfl ⟨Nat.le_of_ble_eq_true rfl, Nat.le_of_ble_eq_true rfl⟩ ⟨Nat.zero_le _, Nat.zero_le _⟩ rfl (Nat.le_of_ble_eq_true rfl) dL_isStep_956) (fun r73 v74 H locs hI hp72 => ?_)
      obtain ⟨hq75, hC76, hX77⟩ := t_setLength hp72 hXb (by omega) (by omega) heb
      refine tI (show _ = nI (Y.1.2.1) from hq75) ?_
      refine lv_icmp_ne (tgt := 976) hx hy dL_isStep_959 (by decide) (fun q => absurd (congrArg nI hYl.symm) q) (fun h78 => ?_)
      refine lv_aload_n hx hy dL_isStep_962 rfl (lv_at hl 1 rfl) ?_
      refine lv_iconst (v := nI 1) hx hy dL_isStep_963 (by decide) ?_
      refine za hT hI (xVa F hT hI hl (kX5_count l E1 v68 (X := (lenS X (1 + ll))) hC70 hX71 (nI 1)) M_L_9 (rX5a F hT hI) rfl ⟨Nat.le_of_ble_eq_true rfl, Nat.le_of_ble_eq_true rfl⟩ ⟨Nat.zero_le _, Nat.zero_le _⟩ rfl (Nat.le_of_ble_eq_true rfl) dL_isStep_964) (fun r80 v81 H locs hI hp79 => ?_)
      obtain ⟨hq82, hC83⟩ := q_count hp79 (by decide)
      refine tI (show _ = nI ((lenS X (1 + ll)).1.2.1) from hq82) ?_
      refine lv_iload hx hy dL_isStep_967 (lv_at hl 0 rfl) ?_
      refine lv_icmp_ne (tgt := 976) hx hy dL_isStep_969 (by decide) (fun q => absurd rfl q) (fun h84 => ?_)
      refine lv_iconst (v := nI 1) hx hy dL_isStep_972 (by decide) ?_
      refine lv_goto (tgt := 977) hx hy dL_isStep_973 (by decide) ?_
      exact rZ2 hQ F rfl hI dL_isStep_977 ⟨rfl, _, _, hR.len hX71 hX77, hC83, hC76⟩
set_option maxHeartbeats 400000 in
set_option maxRecDepth 100000 in
theorem sg978 {p : Program} {l : Launch} {e : Env} {s : State} {m : MethodId} {args : Array Value} {below : List Frame} {meth : Method} {co : Code} {H : Heap} {locs : List Loc} {ls : Array Slot} {Q : State → Prop} {E0 E1 E2 : EV} {u w : SS} {X Y : XS} (hQ : MQ below (Q2 E0 E1 E2 P2) args s 0 0 (eR E0) = Q) (F : Fx E0 p s m args meth co cL_isStep 13 RL (some .boolean)) (hT : Two E0 E1 E2) (hI : Iv2 E0 E1 E2 s H locs u w) (hCa : RepC u.1 X) (hCb : RepC w.1 Y) (hR : Rl X Y) (x y z : Int32) (n i j k : Nat) (hn : X.1.1 = n) (hi : i < n + 1) (hj : j < n + 1) (hk3 : k < n + 1) (hl : lv_has ls 13 [(0, .ref (eA E1 0)), (1, .ref (eA E2 0)), (2, .int (x)), (3, .int (y)), (4, .int (nI n)), (5, .int (z)), (6, .int (nI i)), (7, .int (nI j)), (8, .int (nI k))]) : W p l e (Rm 9 221) s m args below meth co H locs 0 0 Q (F0 m 978 ls []) := by
  have hx := F.1
  have hy := F.2.1
  have hXa := hR.1
  have hXb := hR.2.1
  have h8 := hR.2.2.1
  have hYn := hR.2.2.2.1
  have hYl := hR.2.2.2.2.1
  have hl1 := hXa.1.2.1
  have hl2 := hXa.1.2.2.1
  refine lv_iload hx hy dL_isStep_978 (lv_at hl 6 rfl) ?_
  refine lv_iload hx hy dL_isStep_980 (lv_at hl 4 rfl) ?_
  refine lv_icmp_eq (tgt := 1010) hx hy dL_isStep_982 (by decide) (fun h1 => ?_) (fun h1 => ?_)
  · have h1 : i = n := (nI_eq (a := i) (b := n) (by omega) (by omega)).mp h1
    refine lv_iconst (v := nI 1) hx hy dL_isStep_1010 (by decide) ?_
    refine lv_goto (tgt := 1015) hx hy dL_isStep_1011 (by decide) ?_
    exact rZ2 hQ F rfl hI dL_isStep_1015 ⟨rfl, X, Y, hR, hCa, hCb⟩
  · have h1 : i ≠ n := fun q9 => h1 ((nI_eq (a := i) (b := n) (by omega) (by omega)).mpr q9)
    refine lv_aload_n hx hy dL_isStep_985 rfl (lv_at hl 0 rfl) ?_
    refine lv_iload hx hy dL_isStep_986 (lv_at hl 6 rfl) ?_
    refine lv_iload hx hy dL_isStep_988 (lv_at hl 7 rfl) ?_
    refine lv_iload hx hy dL_isStep_990 (lv_at hl 4 rfl) ?_
    refine lv_icmp_ne (tgt := 999) hx hy dL_isStep_992 (by decide) (fun h2 => ?_) (fun h2 => ?_)
    · have h2 : j ≠ n := fun q9 => h2 ((nI_eq (a := j) (b := n) (by omega) (by omega)).mpr q9)
      refine lv_iload hx hy dL_isStep_999 (lv_at hl 7 rfl) ?_
      refine lv_iload_n hx hy dL_isStep_1001 rfl (lv_at hl 3 rfl) ?_
      refine lv_iconst (v := nI 4) hx hy dL_isStep_1002 (by decide) ?_
      refine lv_ishr hx hy dL_isStep_1003 ?_
      refine za hT hI (xSa F hT hI hl (kL_isLine l E1 u (X := X) hCa hXa i j (y >>> ((nI 4) &&& 31)) (by omega) (by omega)) M_L_55 rfl ⟨Nat.le_of_ble_eq_true rfl, Nat.le_of_ble_eq_true rfl⟩ ⟨Nat.zero_le _, Nat.zero_le _⟩ rfl (Nat.le_of_ble_eq_true rfl) dL_isStep_1004) (fun r4 v5 H locs hI hp3 => ?_)
      obtain ⟨hq6, hC7⟩ := hp3
      refine tI (show _ = nI 1 from hq6) ?_
      refine lv_if_eq (tgt := 1014) hx hy dL_isStep_1007 (by decide) (fun q => absurd q (by decide)) (fun _ => ?_)
      refine lv_iconst (v := nI 1) hx hy dL_isStep_1010 (by decide) ?_
      refine lv_goto (tgt := 1015) hx hy dL_isStep_1011 (by decide) ?_
      exact rZ2 hQ F rfl hI dL_isStep_1015 ⟨rfl, X, Y, hR, hC7, hCb⟩
    · have h2 : j = n := (nI_eq (a := j) (b := n) (by omega) (by omega)).mp h2
      refine lv_iconst (v := nI 0) hx hy dL_isStep_995 (by decide) ?_
      refine lv_goto (tgt := 1001) hx hy dL_isStep_996 (by decide) ?_
      refine lv_iload_n hx hy dL_isStep_1001 rfl (lv_at hl 3 rfl) ?_
      refine lv_iconst (v := nI 4) hx hy dL_isStep_1002 (by decide) ?_
      refine lv_ishr hx hy dL_isStep_1003 ?_
      refine za hT hI (xSa F hT hI hl (kL_isLine l E1 u (X := X) hCa hXa i 0 (y >>> ((nI 4) &&& 31)) (by omega) (by omega)) M_L_55 rfl ⟨Nat.le_of_ble_eq_true rfl, Nat.le_of_ble_eq_true rfl⟩ ⟨Nat.zero_le _, Nat.zero_le _⟩ rfl (Nat.le_of_ble_eq_true rfl) dL_isStep_1004) (fun r9 v10 H locs hI hp8 => ?_)
      obtain ⟨hq11, hC12⟩ := hp8
      refine tI (show _ = nI 1 from hq11) ?_
      refine lv_if_eq (tgt := 1014) hx hy dL_isStep_1007 (by decide) (fun q => absurd q (by decide)) (fun _ => ?_)
      refine lv_iconst (v := nI 1) hx hy dL_isStep_1010 (by decide) ?_
      refine lv_goto (tgt := 1015) hx hy dL_isStep_1011 (by decide) ?_
      exact rZ2 hQ F rfl hI dL_isStep_1015 ⟨rfl, X, Y, hR, hC12, hCb⟩
set_option maxHeartbeats 400000 in
set_option maxRecDepth 100000 in
theorem sg1016 {p : Program} {l : Launch} {e : Env} {s : State} {m : MethodId} {args : Array Value} {below : List Frame} {meth : Method} {co : Code} {H : Heap} {locs : List Loc} {ls : Array Slot} {Q : State → Prop} {E0 E1 E2 : EV} {u w : SS} {X Y : XS} (hQ : MQ below (Q2 E0 E1 E2 P2) args s 0 0 (eR E0) = Q) (F : Fx E0 p s m args meth co cL_isStep 13 RL (some .boolean)) (hT : Two E0 E1 E2) (hI : Iv2 E0 E1 E2 s H locs u w) (hCa : RepC u.1 X) (hCb : RepC w.1 Y) (hR : Rl X Y) (x y z : Int32) (n i j k : Nat) (hn : X.1.1 = n) (hi : i < n + 1) (hj : j < n + 1) (hk3 : k < n + 1) (hl : lv_has ls 13 [(0, .ref (eA E1 0)), (1, .ref (eA E2 0)), (2, .int (x)), (3, .int (y)), (4, .int (nI n)), (5, .int (z)), (6, .int (nI i)), (7, .int (nI j)), (8, .int (nI k))]) : W p l e (Rm 9 221) s m args below meth co H locs 0 0 Q (F0 m 1016 ls []) := by
  have hx := F.1
  have hy := F.2.1
  have hXa := hR.1
  have hXb := hR.2.1
  have h8 := hR.2.2.1
  have hYn := hR.2.2.2.1
  have hYl := hR.2.2.2.2.1
  have hl1 := hXa.1.2.1
  have hl2 := hXa.1.2.2.1
  refine lv_iload hx hy dL_isStep_1016 (lv_at hl 4 rfl) ?_
  refine lv_if_eq (tgt := 1035) hx hy dL_isStep_1018 (by decide) (fun h1 => ?_) (fun h1 => ?_)
  · have h1 : n = 0 := (nI_eq (a := n) (b := 0) (by omega) (by omega)).mp h1
    refine lv_iconst (v := nI 1) hx hy dL_isStep_1035 (by decide) ?_
    refine lv_goto (tgt := 1040) hx hy dL_isStep_1036 (by decide) ?_
    exact rZ2 hQ F rfl hI dL_isStep_1040 ⟨rfl, X, Y, hR, hCa, hCb⟩
  · have h1 : n ≠ 0 := fun q9 => h1 ((nI_eq (a := n) (b := 0) (by omega) (by omega)).mpr q9)
    refine lv_aload_n hx hy dL_isStep_1021 rfl (lv_at hl 0 rfl) ?_
    refine lv_aload_n hx hy dL_isStep_1022 rfl (lv_at hl 1 rfl) ?_
    refine lv_iload_n hx hy dL_isStep_1023 rfl (lv_at hl 3 rfl) ?_
    refine lv_iload hx hy dL_isStep_1024 (lv_at hl 4 rfl) ?_
    refine za hT hI (xSa F hT hI hl (kL_up l E1 u y n (by omega) (by omega)) M_L_15 rfl ⟨Nat.le_of_ble_eq_true rfl, Nat.le_of_ble_eq_true rfl⟩ ⟨Nat.zero_le _, Nat.zero_le _⟩ rfl (Nat.le_of_ble_eq_true rfl) dL_isStep_1026) (fun r3 v4 H locs hI hp2 => ?_)
    obtain ⟨t, ht, hp2⟩ := hp2
    subst hp2
    have hI : Iv2 E0 E1 E2 s H locs u w := hI
    refine z2 hI (xS2 F hI hl (kL_isTurned l hT u w (X := X) (Y := Y) hCa hCb hR t (by omega)) M_L_59 rfl ⟨Nat.le_of_ble_eq_true rfl, Nat.le_of_ble_eq_true rfl⟩ ⟨Nat.zero_le _, Nat.zero_le _⟩ rfl (Nat.le_of_ble_eq_true rfl) dL_isStep_1029) (fun r6 ua8 ub9 H locs hI hp5 => ?_)
    obtain ⟨hq10, hC11, hC12⟩ := hp5
    refine tI (show _ = nI 1 from hq10) ?_
    refine lv_if_eq (tgt := 1039) hx hy dL_isStep_1032 (by decide) (fun q => absurd q (by decide)) (fun _ => ?_)
    refine lv_iconst (v := nI 1) hx hy dL_isStep_1035 (by decide) ?_
    refine lv_goto (tgt := 1040) hx hy dL_isStep_1036 (by decide) ?_
    exact rZ2 hQ F rfl hI dL_isStep_1040 ⟨rfl, X, Y, hR, hC11, hC12⟩
set_option maxHeartbeats 400000 in
set_option maxRecDepth 100000 in
theorem kL_isStep (l : Launch) {E0 E1 E2 : EV} (hT : Two E0 E1 E2) (u w : SS) {X Y : XS} (hCa : RepC u.1 X) (hCb : RepC w.1 Y) (hR : Rl X Y) (x y : Int32) : CT2 l yL_isStep cL_isStep 13 (some .boolean) (Rm 9 221) [.ref (eA E1 0), .ref (eA E2 0), .int x, .int y] E0 E1 E2 u w P2 := by
  refine mstart2 RL (by decide +kernel) rfl (Nat.le_of_ble_eq_true rfl) ?_
  intro p e s m args below meth co ls Q hQ F hI hl
  have hx := F.1
  have hy := F.2.1
  have hl : lv_has ls 13 [(0, .ref (eA E1 0)), (1, .ref (eA E2 0)), (2, .int (x)), (3, .int (y))] := hl
  have hXa := hR.1
  have hXb := hR.2.1
  have h8 := hR.2.2.1
  have hYn := hR.2.2.2.1
  have hYl := hR.2.2.2.2.1
  have hl1 := hXa.1.2.1
  have hl2 := hXa.1.2.2.1
  obtain ⟨n, hn⟩ : ∃ n, X.1.1 = n := ⟨_, rfl⟩
  refine lv_aload_n hx hy dL_isStep_0 rfl (lv_at hl 0 rfl) ?_
  refine lv_iconst (v := nI 0) hx hy dL_isStep_1 (by decide) ?_
  refine za hT hI (xVa F hT hI hl (kX5_count l E1 u (X := X) hCa hXa (nI 0)) M_L_9 (rX5a F hT hI) rfl ⟨Nat.le_of_ble_eq_true rfl, Nat.le_of_ble_eq_true rfl⟩ ⟨Nat.zero_le _, Nat.zero_le _⟩ rfl (Nat.le_of_ble_eq_true rfl) dL_isStep_2) (fun r2 v3 H locs hI hp1 => ?_)
  obtain ⟨hq4, hC5⟩ := q_count hp1 (by decide)
  refine tI (show _ = nI n from hq4.trans (congrArg nI hn)) ?_
  refine lv_istore (lv' := [(4, .int (nI n)), (0, .ref (eA E1 0)), (1, .ref (eA E2 0)), (2, .int (x)), (3, .int (y))]) hx hy dL_isStep_5 hl (by decide) rfl (fun ls hl => ?_)
  refine lv_iload_n hx hy dL_isStep_7 rfl (lv_at hl 3 rfl) ?_
  refine lv_iconst (v := nI 4) hx hy dL_isStep_8 (by decide) ?_
  refine lv_ishr hx hy dL_isStep_9 ?_
  refine lv_istore (lv' := [(5, .int (x >>> ((nI 4) &&& 31))), (4, .int (nI n)), (0, .ref (eA E1 0)), (1, .ref (eA E2 0)), (2, .int (x)), (3, .int (y))]) hx hy dL_isStep_10 hl (by decide) rfl (fun ls hl => ?_)
  refine lv_iload_n hx hy dL_isStep_12 rfl (lv_at hl 5 rfl) ?_
  refine lv_iload hx hy dL_isStep_13 (lv_at hl 1 rfl) ?_
  refine lv_iconst (v := nI 1) hx hy dL_isStep_15 (by decide) ?_
  refine lv_iadd hx hy dL_isStep_16 ?_
  refine tI (nI_add (n) (1)) ?_
  refine za hT hI (xSa F hT hI hl (kL_up l E1 v3 y (n + 1) (by omega) (by omega)) M_L_15 rfl ⟨Nat.le_of_ble_eq_true rfl, Nat.le_of_ble_eq_true rfl⟩ ⟨Nat.zero_le _, Nat.zero_le _⟩ rfl (Nat.le_of_ble_eq_true rfl) dL_isStep_17) (fun r7 v8 H locs hI hp6 => ?_)
  obtain ⟨i, hi, hp6⟩ := hp6
  subst hp6
  have hI : Iv2 E0 E1 E2 s H locs v3 w := hI
  refine lv_istore (lv' := [(6, .int (nI i)), (5, .int (x >>> ((nI 4) &&& 31))), (4, .int (nI n)), (0, .ref (eA E1 0)), (1, .ref (eA E2 0)), (2, .int (x)), (3, .int (y))]) hx hy dL_isStep_20 hl (by decide) rfl (fun ls hl => ?_)
  refine lv_iload_n hx hy dL_isStep_22 rfl (lv_at hl 6 rfl) ?_
  refine lv_iconst (v := nI 3) hx hy dL_isStep_23 (by decide) ?_
  refine lv_ishr hx hy dL_isStep_24 ?_
  refine lv_iload hx hy dL_isStep_25 (lv_at hl 2 rfl) ?_
  refine lv_iconst (v := nI 1) hx hy dL_isStep_27 (by decide) ?_
  refine lv_iadd hx hy dL_isStep_28 ?_
  refine tI (nI_add (n) (1)) ?_
  refine za hT hI (xSa F hT hI hl (kL_up l E1 v3 (y >>> ((nI 3) &&& 31)) (n + 1) (by omega) (by omega)) M_L_15 rfl ⟨Nat.le_of_ble_eq_true rfl, Nat.le_of_ble_eq_true rfl⟩ ⟨Nat.zero_le _, Nat.zero_le _⟩ rfl (Nat.le_of_ble_eq_true rfl) dL_isStep_29) (fun r10 v11 H locs hI hp9 => ?_)
  obtain ⟨j, hj, hp9⟩ := hp9
  subst hp9
  have hI : Iv2 E0 E1 E2 s H locs v3 w := hI
  refine lv_istore (lv' := [(7, .int (nI j)), (6, .int (nI i)), (5, .int (x >>> ((nI 4) &&& 31))), (4, .int (nI n)), (0, .ref (eA E1 0)), (1, .ref (eA E2 0)), (2, .int (x)), (3, .int (y))]) hx hy dL_isStep_32 hl (by decide) rfl (fun ls hl => ?_)
  refine lv_iload_n hx hy dL_isStep_34 rfl (lv_at hl 7 rfl) ?_
  refine lv_bipush (v := nI 6) hx hy dL_isStep_35 (by decide) ?_
  refine lv_ishr hx hy dL_isStep_37 ?_
  refine lv_iload hx hy dL_isStep_38 (lv_at hl 3 rfl) ?_
  refine lv_iconst (v := nI 1) hx hy dL_isStep_40 (by decide) ?_
  refine lv_iadd hx hy dL_isStep_41 ?_
  refine tI (nI_add (n) (1)) ?_
  refine za hT hI (xSa F hT hI hl (kL_up l E1 v3 (y >>> ((nI 6) &&& 31)) (n + 1) (by omega) (by omega)) M_L_15 rfl ⟨Nat.le_of_ble_eq_true rfl, Nat.le_of_ble_eq_true rfl⟩ ⟨Nat.zero_le _, Nat.zero_le _⟩ rfl (Nat.le_of_ble_eq_true rfl) dL_isStep_42) (fun r13 v14 H locs hI hp12 => ?_)
  obtain ⟨k, hk, hp12⟩ := hp12
  subst hp12
  have hI : Iv2 E0 E1 E2 s H locs v3 w := hI
  refine lv_istore (lv' := [(8, .int (nI k)), (7, .int (nI j)), (6, .int (nI i)), (5, .int (x >>> ((nI 4) &&& 31))), (4, .int (nI n)), (0, .ref (eA E1 0)), (1, .ref (eA E2 0)), (2, .int (x)), (3, .int (y))]) hx hy dL_isStep_45 hl (by decide) rfl (fun ls hl => ?_)
  refine lv_iload_n hx hy dL_isStep_47 rfl (lv_at hl 7 rfl) ?_
  refine lv_bipush (v := nI 12) hx hy dL_isStep_48 (by decide) ?_
  refine za hT hI (xSa F hT hI hl (kL_up l E1 v3 x 12 (by omega) (by omega)) M_L_15 rfl ⟨Nat.le_of_ble_eq_true rfl, Nat.le_of_ble_eq_true rfl⟩ ⟨Nat.zero_le _, Nat.zero_le _⟩ rfl (Nat.le_of_ble_eq_true rfl) dL_isStep_50) (fun r16 v17 H locs hI hp15 => ?_)
  obtain ⟨g, hg, hp15⟩ := hp15
  subst hp15
  have hI : Iv2 E0 E1 E2 s H locs v3 w := hI
  refine lv_istore (lv' := [(9, .int (nI g)), (8, .int (nI k)), (7, .int (nI j)), (6, .int (nI i)), (5, .int (x >>> ((nI 4) &&& 31))), (4, .int (nI n)), (0, .ref (eA E1 0)), (1, .ref (eA E2 0)), (2, .int (x)), (3, .int (y))]) hx hy dL_isStep_53 hl (by decide) rfl (fun ls hl => ?_)
  rcases (show g = 0 ∨ g = 1 ∨ g = 2 ∨ g = 3 ∨ g = 4 ∨ g = 5 ∨ g = 6 ∨ g = 7 ∨ g = 8 ∨ g = 9 ∨ g = 10 ∨ g = 11 by omega) with rfl | rfl | rfl | rfl | rfl | rfl | rfl | rfl | rfl | rfl | rfl | rfl
  · refine lv_iload hx hy dL_isStep_55 (lv_at hl 0 rfl) ?_
    refine lv_bipush (v := nI 8) hx hy dL_isStep_57 (by decide) ?_
    refine lv_icmp_ge (tgt := 102) hx hy dL_isStep_59 (by decide) (fun q => absurd q (by decide)) (fun _ => ?_)
    refine lv_iload hx hy dL_isStep_62 (lv_at hl 5 rfl) ?_
    refine lv_bipush (v := nI 8) hx hy dL_isStep_64 (by decide) ?_
    refine lv_icmp_ne (tgt := 102) hx hy dL_isStep_66 (by decide) (fun h18 => ?_) (fun h18 => ?_)
    · have h18 : n ≠ 8 := fun q9 => h18 ((nI_eq (a := n) (b := 8) (by omega) (by omega)).mpr q9)
      refine lv_iload hx hy dL_isStep_102 (lv_at hl 0 rfl) ?_
      refine lv_tableIn (tgt := 164) hx hy dL_isStep_104 (by decide) (by decide) (by rfl) (by decide) ?_
      exact sg164 hQ F hT hI hC5 hCb hR x y (x >>> ((nI 4) &&& 31)) n i j k hn hi hj hk (show n < 8 by omega) (lv_sub hl [6, 7, 8, 9, 5, 4, 3, 2, 1] rfl)
    · have h18 : n = 8 := (nI_eq (a := n) (b := 8) (by omega) (by omega)).mp h18
      exact sg69 hQ F hT hI hC5 hCb hR x y (x >>> ((nI 4) &&& 31)) n i j k hn hi hj hk h18 (lv_sub hl [6, 7, 8, 9, 5, 4, 3, 2, 1] rfl)
  · refine lv_iload hx hy dL_isStep_55 (lv_at hl 0 rfl) ?_
    refine lv_bipush (v := nI 8) hx hy dL_isStep_57 (by decide) ?_
    refine lv_icmp_ge (tgt := 102) hx hy dL_isStep_59 (by decide) (fun q => absurd q (by decide)) (fun _ => ?_)
    refine lv_iload hx hy dL_isStep_62 (lv_at hl 5 rfl) ?_
    refine lv_bipush (v := nI 8) hx hy dL_isStep_64 (by decide) ?_
    refine lv_icmp_ne (tgt := 102) hx hy dL_isStep_66 (by decide) (fun h19 => ?_) (fun h19 => ?_)
    · have h19 : n ≠ 8 := fun q9 => h19 ((nI_eq (a := n) (b := 8) (by omega) (by omega)).mpr q9)
      refine lv_iload hx hy dL_isStep_102 (lv_at hl 0 rfl) ?_
      refine lv_tableIn (tgt := 164) hx hy dL_isStep_104 (by decide) (by decide) (by rfl) (by decide) ?_
      exact sg164 hQ F hT hI hC5 hCb hR x y (x >>> ((nI 4) &&& 31)) n i j k hn hi hj hk (show n < 8 by omega) (lv_sub hl [6, 7, 8, 9, 5, 4, 3, 2, 1] rfl)
    · have h19 : n = 8 := (nI_eq (a := n) (b := 8) (by omega) (by omega)).mp h19
      exact sg69 hQ F hT hI hC5 hCb hR x y (x >>> ((nI 4) &&& 31)) n i j k hn hi hj hk h19 (lv_sub hl [6, 7, 8, 9, 5, 4, 3, 2, 1] rfl)
  · refine lv_iload hx hy dL_isStep_55 (lv_at hl 0 rfl) ?_
    refine lv_bipush (v := nI 8) hx hy dL_isStep_57 (by decide) ?_
    refine lv_icmp_ge (tgt := 102) hx hy dL_isStep_59 (by decide) (fun q => absurd q (by decide)) (fun _ => ?_)
    refine lv_iload hx hy dL_isStep_62 (lv_at hl 5 rfl) ?_
    refine lv_bipush (v := nI 8) hx hy dL_isStep_64 (by decide) ?_
    refine lv_icmp_ne (tgt := 102) hx hy dL_isStep_66 (by decide) (fun h20 => ?_) (fun h20 => ?_)
    · have h20 : n ≠ 8 := fun q9 => h20 ((nI_eq (a := n) (b := 8) (by omega) (by omega)).mpr q9)
      refine lv_iload hx hy dL_isStep_102 (lv_at hl 0 rfl) ?_
      refine lv_tableIn (tgt := 164) hx hy dL_isStep_104 (by decide) (by decide) (by rfl) (by decide) ?_
      exact sg164 hQ F hT hI hC5 hCb hR x y (x >>> ((nI 4) &&& 31)) n i j k hn hi hj hk (show n < 8 by omega) (lv_sub hl [6, 7, 8, 9, 5, 4, 3, 2, 1] rfl)
    · have h20 : n = 8 := (nI_eq (a := n) (b := 8) (by omega) (by omega)).mp h20
      exact sg69 hQ F hT hI hC5 hCb hR x y (x >>> ((nI 4) &&& 31)) n i j k hn hi hj hk h20 (lv_sub hl [6, 7, 8, 9, 5, 4, 3, 2, 1] rfl)
  · refine lv_iload hx hy dL_isStep_55 (lv_at hl 0 rfl) ?_
    refine lv_bipush (v := nI 8) hx hy dL_isStep_57 (by decide) ?_
    refine lv_icmp_ge (tgt := 102) hx hy dL_isStep_59 (by decide) (fun q => absurd q (by decide)) (fun _ => ?_)
    refine lv_iload hx hy dL_isStep_62 (lv_at hl 5 rfl) ?_
    refine lv_bipush (v := nI 8) hx hy dL_isStep_64 (by decide) ?_
    refine lv_icmp_ne (tgt := 102) hx hy dL_isStep_66 (by decide) (fun h21 => ?_) (fun h21 => ?_)
    · have h21 : n ≠ 8 := fun q9 => h21 ((nI_eq (a := n) (b := 8) (by omega) (by omega)).mpr q9)
      refine lv_iload hx hy dL_isStep_102 (lv_at hl 0 rfl) ?_
      refine lv_tableIn (tgt := 236) hx hy dL_isStep_104 (by decide) (by decide) (by rfl) (by decide) ?_
      exact sg236 hQ F hT hI hC5 hCb hR x y (x >>> ((nI 4) &&& 31)) n i j k hn hi hj hk (show n < 8 by omega) (lv_sub hl [6, 7, 8, 9, 5, 4, 3, 2, 1] rfl)
    · have h21 : n = 8 := (nI_eq (a := n) (b := 8) (by omega) (by omega)).mp h21
      exact sg69 hQ F hT hI hC5 hCb hR x y (x >>> ((nI 4) &&& 31)) n i j k hn hi hj hk h21 (lv_sub hl [6, 7, 8, 9, 5, 4, 3, 2, 1] rfl)
  · refine lv_iload hx hy dL_isStep_55 (lv_at hl 0 rfl) ?_
    refine lv_bipush (v := nI 8) hx hy dL_isStep_57 (by decide) ?_
    refine lv_icmp_ge (tgt := 102) hx hy dL_isStep_59 (by decide) (fun q => absurd q (by decide)) (fun _ => ?_)
    refine lv_iload hx hy dL_isStep_62 (lv_at hl 5 rfl) ?_
    refine lv_bipush (v := nI 8) hx hy dL_isStep_64 (by decide) ?_
    refine lv_icmp_ne (tgt := 102) hx hy dL_isStep_66 (by decide) (fun h22 => ?_) (fun h22 => ?_)
    · have h22 : n ≠ 8 := fun q9 => h22 ((nI_eq (a := n) (b := 8) (by omega) (by omega)).mpr q9)
      refine lv_iload hx hy dL_isStep_102 (lv_at hl 0 rfl) ?_
      refine lv_tableIn (tgt := 236) hx hy dL_isStep_104 (by decide) (by decide) (by rfl) (by decide) ?_
      exact sg236 hQ F hT hI hC5 hCb hR x y (x >>> ((nI 4) &&& 31)) n i j k hn hi hj hk (show n < 8 by omega) (lv_sub hl [6, 7, 8, 9, 5, 4, 3, 2, 1] rfl)
    · have h22 : n = 8 := (nI_eq (a := n) (b := 8) (by omega) (by omega)).mp h22
      exact sg69 hQ F hT hI hC5 hCb hR x y (x >>> ((nI 4) &&& 31)) n i j k hn hi hj hk h22 (lv_sub hl [6, 7, 8, 9, 5, 4, 3, 2, 1] rfl)
  · refine lv_iload hx hy dL_isStep_55 (lv_at hl 0 rfl) ?_
    refine lv_bipush (v := nI 8) hx hy dL_isStep_57 (by decide) ?_
    refine lv_icmp_ge (tgt := 102) hx hy dL_isStep_59 (by decide) (fun q => absurd q (by decide)) (fun _ => ?_)
    refine lv_iload hx hy dL_isStep_62 (lv_at hl 5 rfl) ?_
    refine lv_bipush (v := nI 8) hx hy dL_isStep_64 (by decide) ?_
    refine lv_icmp_ne (tgt := 102) hx hy dL_isStep_66 (by decide) (fun h23 => ?_) (fun h23 => ?_)
    · have h23 : n ≠ 8 := fun q9 => h23 ((nI_eq (a := n) (b := 8) (by omega) (by omega)).mpr q9)
      refine lv_iload hx hy dL_isStep_102 (lv_at hl 0 rfl) ?_
      refine lv_tableIn (tgt := 531) hx hy dL_isStep_104 (by decide) (by decide) (by rfl) (by decide) ?_
      exact sg531 hQ F hT hI hC5 hCb hR x y (x >>> ((nI 4) &&& 31)) n i j k hn hi hj hk (show n < 8 by omega) (lv_sub hl [6, 7, 8, 9, 5, 4, 3, 2, 1] rfl)
    · have h23 : n = 8 := (nI_eq (a := n) (b := 8) (by omega) (by omega)).mp h23
      exact sg69 hQ F hT hI hC5 hCb hR x y (x >>> ((nI 4) &&& 31)) n i j k hn hi hj hk h23 (lv_sub hl [6, 7, 8, 9, 5, 4, 3, 2, 1] rfl)
  · refine lv_iload hx hy dL_isStep_55 (lv_at hl 0 rfl) ?_
    refine lv_bipush (v := nI 8) hx hy dL_isStep_57 (by decide) ?_
    refine lv_icmp_ge (tgt := 102) hx hy dL_isStep_59 (by decide) (fun q => absurd q (by decide)) (fun _ => ?_)
    refine lv_iload hx hy dL_isStep_62 (lv_at hl 5 rfl) ?_
    refine lv_bipush (v := nI 8) hx hy dL_isStep_64 (by decide) ?_
    refine lv_icmp_ne (tgt := 102) hx hy dL_isStep_66 (by decide) (fun h24 => ?_) (fun h24 => ?_)
    · have h24 : n ≠ 8 := fun q9 => h24 ((nI_eq (a := n) (b := 8) (by omega) (by omega)).mpr q9)
      refine lv_iload hx hy dL_isStep_102 (lv_at hl 0 rfl) ?_
      refine lv_tableIn (tgt := 638) hx hy dL_isStep_104 (by decide) (by decide) (by rfl) (by decide) ?_
      exact sg638 hQ F hT hI hC5 hCb hR x y (x >>> ((nI 4) &&& 31)) n i j k hn hi hj hk (show n < 8 by omega) (lv_sub hl [6, 7, 8, 9, 5, 4, 3, 2, 1] rfl)
    · have h24 : n = 8 := (nI_eq (a := n) (b := 8) (by omega) (by omega)).mp h24
      exact sg69 hQ F hT hI hC5 hCb hR x y (x >>> ((nI 4) &&& 31)) n i j k hn hi hj hk h24 (lv_sub hl [6, 7, 8, 9, 5, 4, 3, 2, 1] rfl)
  · refine lv_iload hx hy dL_isStep_55 (lv_at hl 0 rfl) ?_
    refine lv_bipush (v := nI 8) hx hy dL_isStep_57 (by decide) ?_
    refine lv_icmp_ge (tgt := 102) hx hy dL_isStep_59 (by decide) (fun q => absurd q (by decide)) (fun _ => ?_)
    refine lv_iload hx hy dL_isStep_62 (lv_at hl 5 rfl) ?_
    refine lv_bipush (v := nI 8) hx hy dL_isStep_64 (by decide) ?_
    refine lv_icmp_ne (tgt := 102) hx hy dL_isStep_66 (by decide) (fun h25 => ?_) (fun h25 => ?_)
    · have h25 : n ≠ 8 := fun q9 => h25 ((nI_eq (a := n) (b := 8) (by omega) (by omega)).mpr q9)
      refine lv_iload hx hy dL_isStep_102 (lv_at hl 0 rfl) ?_
      refine lv_tableIn (tgt := 713) hx hy dL_isStep_104 (by decide) (by decide) (by rfl) (by decide) ?_
      exact sg713 hQ F hT hI hC5 hCb hR x y (x >>> ((nI 4) &&& 31)) n i j k hn hi hj hk (show n < 8 by omega) (lv_sub hl [6, 7, 8, 9, 5, 4, 3, 2, 1] rfl)
    · have h25 : n = 8 := (nI_eq (a := n) (b := 8) (by omega) (by omega)).mp h25
      exact sg69 hQ F hT hI hC5 hCb hR x y (x >>> ((nI 4) &&& 31)) n i j k hn hi hj hk h25 (lv_sub hl [6, 7, 8, 9, 5, 4, 3, 2, 1] rfl)
  · refine lv_iload hx hy dL_isStep_55 (lv_at hl 0 rfl) ?_
    refine lv_bipush (v := nI 8) hx hy dL_isStep_57 (by decide) ?_
    refine lv_icmp_ge (tgt := 102) hx hy dL_isStep_59 (by decide) (fun _ => ?_) (fun q => absurd q (by decide))
    refine lv_iload hx hy dL_isStep_102 (lv_at hl 0 rfl) ?_
    refine lv_tableIn (tgt := 804) hx hy dL_isStep_104 (by decide) (by decide) (by rfl) (by decide) ?_
    exact sg804 hQ F hT hI hC5 hCb hR x y (x >>> ((nI 4) &&& 31)) n i j k hn hi hj hk (lv_sub hl [6, 7, 8, 9, 5, 4, 3, 2, 1] rfl)
  · refine lv_iload hx hy dL_isStep_55 (lv_at hl 0 rfl) ?_
    refine lv_bipush (v := nI 8) hx hy dL_isStep_57 (by decide) ?_
    refine lv_icmp_ge (tgt := 102) hx hy dL_isStep_59 (by decide) (fun _ => ?_) (fun q => absurd q (by decide))
    refine lv_iload hx hy dL_isStep_102 (lv_at hl 0 rfl) ?_
    refine lv_tableIn (tgt := 921) hx hy dL_isStep_104 (by decide) (by decide) (by rfl) (by decide) ?_
    exact sg921 hQ F hT hI hC5 hCb hR x y (x >>> ((nI 4) &&& 31)) n i j k hn hi hj hk (lv_sub hl [6, 7, 8, 9, 5, 4, 3, 2, 1] rfl)
  · refine lv_iload hx hy dL_isStep_55 (lv_at hl 0 rfl) ?_
    refine lv_bipush (v := nI 8) hx hy dL_isStep_57 (by decide) ?_
    refine lv_icmp_ge (tgt := 102) hx hy dL_isStep_59 (by decide) (fun _ => ?_) (fun q => absurd q (by decide))
    refine lv_iload hx hy dL_isStep_102 (lv_at hl 0 rfl) ?_
    refine lv_tableIn (tgt := 978) hx hy dL_isStep_104 (by decide) (by decide) (by rfl) (by decide) ?_
    exact sg978 hQ F hT hI hC5 hCb hR x y (x >>> ((nI 4) &&& 31)) n i j k hn hi hj hk (lv_sub hl [6, 7, 8, 9, 5, 4, 3, 2, 1] rfl)
  · refine lv_iload hx hy dL_isStep_55 (lv_at hl 0 rfl) ?_
    refine lv_bipush (v := nI 8) hx hy dL_isStep_57 (by decide) ?_
    refine lv_icmp_ge (tgt := 102) hx hy dL_isStep_59 (by decide) (fun _ => ?_) (fun q => absurd q (by decide))
    refine lv_iload hx hy dL_isStep_102 (lv_at hl 0 rfl) ?_
    refine lv_tableOut (tgt := 1016) hx hy dL_isStep_104 (by decide) (by decide) ?_
    exact sg1016 hQ F hT hI hC5 hCb hR x y (x >>> ((nI 4) &&& 31)) n i j k hn hi hj hk (lv_sub hl [6, 7, 8, 9, 5, 4, 3, 2, 1] rfl)
