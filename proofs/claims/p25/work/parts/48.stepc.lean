set_option maxHeartbeats 400000 in
set_option maxRecDepth 100000 in
theorem sg531 {p : Program} {l : Launch} {e : Env} {s : State} {m : MethodId} {args : Array Value} {below : List Frame} {meth : Method} {co : Code} {H : Heap} {locs : List Loc} {ls : Array Slot} {Q : State → Prop} {E0 E1 E2 : EV} {u w : SS} {X Y : XS} (hQ : MQ below (Q2 E0 E1 E2 P2) args s 0 0 (eR E0) = Q) (F : Fx E0 p s m args meth co cL_isStep 13 RL (some .boolean)) (hT : Two E0 E1 E2) (hI : Iv2 E0 E1 E2 s H locs u w) (hCa : RepC u.1 X) (hCb : RepC w.1 Y) (hR : Rl X Y) (x y z : Int32) (n i j k : Nat) (hn : X.1.1 = n) (hi : i < n + 1) (hj : j < n + 1) (hk3 : k < n + 1) (hlt : n < 8) (hl : lv_has ls 13 [(0, .ref (eA E1 0)), (1, .ref (eA E2 0)), (2, .int (x)), (3, .int (y)), (4, .int (nI n)), (5, .int (z)), (6, .int (nI i)), (7, .int (nI j)), (8, .int (nI k))]) : W p l e (Rm 9 221) s m args below meth co H locs 0 0 Q (F0 m 531 ls []) := by
  have hx := F.1
  have hy := F.2.1
  have hXa := hR.1
  have hXb := hR.2.1
  have h8 := hR.2.2.1
  have hYn := hR.2.2.2.1
  have hYl := hR.2.2.2.2.1
  have hl1 := hXa.1.2.1
  have hl2 := hXa.1.2.2.1
  refine lv_iload hx hy dL_isStep_531 (lv_at hl 6 rfl) ?_
  refine lv_iload hx hy dL_isStep_533 (lv_at hl 4 rfl) ?_
  refine lv_icmp_eq (tgt := 552) hx hy dL_isStep_535 (by decide) (fun h1 => ?_) (fun h1 => ?_)
  · have h1 : i = n := (nI_eq (a := i) (b := n) (by omega) (by omega)).mp h1
    refine lv_aload_n hx hy dL_isStep_552 rfl (lv_at hl 0 rfl) ?_
    refine lv_iload hx hy dL_isStep_553 (lv_at hl 6 rfl) ?_
    refine lv_iload hx hy dL_isStep_555 (lv_at hl 7 rfl) ?_
    refine lv_iload hx hy dL_isStep_557 (lv_at hl 8 rfl) ?_
    refine za hT hI (xVa F hT hI hl (kX5_choose l E1 u (X := X) hCa hXa (nI i) (nI j) (nI k)) M_L_42 (rX5a F hT hI) rfl ⟨Nat.le_of_ble_eq_true rfl, Nat.le_of_ble_eq_true rfl⟩ ⟨Nat.zero_le _, Nat.zero_le _⟩ rfl (Nat.le_of_ble_eq_true rfl) dL_isStep_559) (fun r3 v4 H locs hI hp2 => ?_)
    obtain ⟨hq5, hC6⟩ := u_choose hp2 hXa (by omega) (by omega) (by omega) (by omega)
    refine tI (show _ = (-100000001 : Int32) from hq5) ?_
    refine zc F K_L_35 dL_isStep_562 ?_
    refine lv_icmp_ne (tgt := 571) hx hy dL_isStep_564 (by decide) (fun q => absurd q (by decide)) (fun _ => ?_)
    refine lv_iconst (v := nI 1) hx hy dL_isStep_567 (by decide) ?_
    refine lv_goto (tgt := 637) hx hy dL_isStep_568 (by decide) ?_
    exact rZ2 hQ F rfl hI dL_isStep_637 ⟨rfl, X, Y, hR, hC6, hCb⟩
  · have h1 : i ≠ n := fun q9 => h1 ((nI_eq (a := i) (b := n) (by omega) (by omega)).mpr q9)
    refine lv_iload hx hy dL_isStep_538 (lv_at hl 7 rfl) ?_
    refine lv_iload hx hy dL_isStep_540 (lv_at hl 4 rfl) ?_
    refine lv_icmp_eq (tgt := 552) hx hy dL_isStep_542 (by decide) (fun h8 => ?_) (fun h8 => ?_)
    · have h8 : j = n := (nI_eq (a := j) (b := n) (by omega) (by omega)).mp h8
      refine lv_aload_n hx hy dL_isStep_552 rfl (lv_at hl 0 rfl) ?_
      refine lv_iload hx hy dL_isStep_553 (lv_at hl 6 rfl) ?_
      refine lv_iload hx hy dL_isStep_555 (lv_at hl 7 rfl) ?_
      refine lv_iload hx hy dL_isStep_557 (lv_at hl 8 rfl) ?_
      refine za hT hI (xVa F hT hI hl (kX5_choose l E1 u (X := X) hCa hXa (nI i) (nI j) (nI k)) M_L_42 (rX5a F hT hI) rfl ⟨Nat.le_of_ble_eq_true rfl, Nat.le_of_ble_eq_true rfl⟩ ⟨Nat.zero_le _, Nat.zero_le _⟩ rfl (Nat.le_of_ble_eq_true rfl) dL_isStep_559) (fun r10 v11 H locs hI hp9 => ?_)
      obtain ⟨hq12, hC13⟩ := u_choose hp9 hXa (by omega) (by omega) (by omega) (by omega)
      refine tI (show _ = (-100000001 : Int32) from hq12) ?_
      refine zc F K_L_35 dL_isStep_562 ?_
      refine lv_icmp_ne (tgt := 571) hx hy dL_isStep_564 (by decide) (fun q => absurd q (by decide)) (fun _ => ?_)
      refine lv_iconst (v := nI 1) hx hy dL_isStep_567 (by decide) ?_
      refine lv_goto (tgt := 637) hx hy dL_isStep_568 (by decide) ?_
      exact rZ2 hQ F rfl hI dL_isStep_637 ⟨rfl, X, Y, hR, hC13, hCb⟩
    · have h8 : j ≠ n := fun q9 => h8 ((nI_eq (a := j) (b := n) (by omega) (by omega)).mpr q9)
      refine lv_iload hx hy dL_isStep_545 (lv_at hl 8 rfl) ?_
      refine lv_iload hx hy dL_isStep_547 (lv_at hl 4 rfl) ?_
      refine lv_icmp_ne (tgt := 575) hx hy dL_isStep_549 (by decide) (fun h15 => ?_) (fun h15 => ?_)
      · have h15 : k ≠ n := fun q9 => h15 ((nI_eq (a := k) (b := n) (by omega) (by omega)).mpr q9)
        refine lv_aload_n hx hy dL_isStep_575 rfl (lv_at hl 0 rfl) ?_
        refine lv_iload hx hy dL_isStep_576 (lv_at hl 6 rfl) ?_
        refine lv_iload hx hy dL_isStep_578 (lv_at hl 7 rfl) ?_
        refine lv_iload hx hy dL_isStep_580 (lv_at hl 8 rfl) ?_
        refine za hT hI (xVa F hT hI hl (kX5_choose l E1 u (X := X) hCa hXa (nI i) (nI j) (nI k)) M_L_42 (rX5a F hT hI) rfl ⟨Nat.le_of_ble_eq_true rfl, Nat.le_of_ble_eq_true rfl⟩ ⟨Nat.zero_le _, Nat.zero_le _⟩ rfl (Nat.le_of_ble_eq_true rfl) dL_isStep_582) (fun r17 v18 H locs hI hp16 => ?_)
        obtain ⟨hq19, hC20, hX21⟩ := t_choose (m := n) hp16 hXa (by first | omega | (simp only [addS_n, dropS_n]; omega)) (by omega) (by omega) (by omega) (by omega)
        refine tI (show _ = nI n from hq19) ?_
        refine lv_iload hx hy dL_isStep_585 (lv_at hl 4 rfl) ?_
        refine lv_icmp_ne (tgt := 636) hx hy dL_isStep_587 (by decide) (fun q => absurd rfl q) (fun h22 => ?_)
        refine lv_aload_n hx hy dL_isStep_590 rfl (lv_at hl 1 rfl) ?_
        refine lv_iconst (v := nI 2) hx hy dL_isStep_591 (by decide) ?_
        refine lv_iload hx hy dL_isStep_592 (lv_at hl 7 rfl) ?_
        refine lv_imul hx hy dL_isStep_594 ?_
        refine tI (pk_mul (2) (j)) ?_
        refine lv_iconst (v := nI 2) hx hy dL_isStep_595 (by decide) ?_
        refine lv_iload hx hy dL_isStep_596 (lv_at hl 6 rfl) ?_
        refine lv_imul hx hy dL_isStep_598 ?_
        refine tI (pk_mul (2) (i)) ?_
        refine lv_iconst (v := nI 2) hx hy dL_isStep_599 (by decide) ?_
        refine lv_iload hx hy dL_isStep_600 (lv_at hl 8 rfl) ?_
        refine lv_imul hx hy dL_isStep_602 ?_
        refine tI (pk_mul (2) (k)) ?_
        refine lv_iconst (v := nI 1) hx hy dL_isStep_603 (by decide) ?_
        refine lv_iadd hx hy dL_isStep_604 ?_
        refine tI (nI_add (2 * k) (1)) ?_
        refine zb hT hI (xVb F hT hI hl (kX5_choose l E2 w (X := Y) hCb hXb (nI (2 * j)) (nI (2 * i)) (nI (2 * k + 1))) M_L_42 (rX5b F hT hI) rfl ⟨Nat.le_of_ble_eq_true rfl, Nat.le_of_ble_eq_true rfl⟩ ⟨Nat.zero_le _, Nat.zero_le _⟩ rfl (Nat.le_of_ble_eq_true rfl) dL_isStep_605) (fun r24 v25 H locs hI hp23 => ?_)
        obtain ⟨hq26, hC27, hX28⟩ := t_choose (m := 2 * n) hp23 hXb (by first | omega | (simp only [addS_n, dropS_n]; omega)) (by omega) (by omega) (by omega) (by omega)
        refine tI (show _ = nI (2 * n) from hq26) ?_
        refine lv_iconst (v := nI 2) hx hy dL_isStep_608 (by decide) ?_
        refine lv_iload hx hy dL_isStep_609 (lv_at hl 4 rfl) ?_
        refine lv_imul hx hy dL_isStep_611 ?_
        refine tI (pk_mul (2) (n)) ?_
        refine lv_icmp_ne (tgt := 636) hx hy dL_isStep_612 (by decide) (fun q => absurd rfl q) (fun h29 => ?_)
        refine lv_aload_n hx hy dL_isStep_615 rfl (lv_at hl 1 rfl) ?_
        refine lv_iconst (v := nI 2) hx hy dL_isStep_616 (by decide) ?_
        refine lv_iload hx hy dL_isStep_617 (lv_at hl 4 rfl) ?_
        refine lv_imul hx hy dL_isStep_619 ?_
        refine tI (pk_mul (2) (n)) ?_
        refine zb hT hI (xVb F hT hI hl (kX5_turn l E2 v25 (X := (addS Y (4, 2 * j, 2 * i, 2 * k + 1))) hC27 hX28 (nI (2 * n))) M_L_28 (rX5b F hT hI) rfl ⟨Nat.le_of_ble_eq_true rfl, Nat.le_of_ble_eq_true rfl⟩ ⟨Nat.zero_le _, Nat.zero_le _⟩ rfl (Nat.le_of_ble_eq_true rfl) dL_isStep_620) (fun r31 v32 H locs hI hp30 => ?_)
        obtain ⟨hq33, hC34, hX35⟩ := t_turn (m := 2 * n + 1) hp30 hX28 (by first | omega | (simp only [addS_n, dropS_n]; omega)) (by omega) (by omega)
        refine tI (show _ = nI (2 * n + 1) from hq33) ?_
        refine lv_iconst (v := nI 2) hx hy dL_isStep_623 (by decide) ?_
        refine lv_iload hx hy dL_isStep_624 (lv_at hl 4 rfl) ?_
        refine lv_imul hx hy dL_isStep_626 ?_
        refine tI (pk_mul (2) (n)) ?_
        refine lv_iconst (v := nI 1) hx hy dL_isStep_627 (by decide) ?_
        refine lv_iadd hx hy dL_isStep_628 ?_
        refine tI (nI_add (2 * n) (1)) ?_
        refine lv_icmp_ne (tgt := 636) hx hy dL_isStep_629 (by decide) (fun q => absurd rfl q) (fun h36 => ?_)
        refine lv_iconst (v := nI 1) hx hy dL_isStep_632 (by decide) ?_
        refine lv_goto (tgt := 637) hx hy dL_isStep_633 (by decide) ?_
        exact rZ2 hQ F rfl hI dL_isStep_637 ⟨rfl, _, _, hR.add9 hn (by omega) (pr_ch _ _ _) hX21 hX35, hC20, hC34⟩
      · have h15 : k = n := (nI_eq (a := k) (b := n) (by omega) (by omega)).mp h15
        refine lv_aload_n hx hy dL_isStep_552 rfl (lv_at hl 0 rfl) ?_
        refine lv_iload hx hy dL_isStep_553 (lv_at hl 6 rfl) ?_
        refine lv_iload hx hy dL_isStep_555 (lv_at hl 7 rfl) ?_
        refine lv_iload hx hy dL_isStep_557 (lv_at hl 8 rfl) ?_
        refine za hT hI (xVa F hT hI hl (kX5_choose l E1 u (X := X) hCa hXa (nI i) (nI j) (nI k)) M_L_42 (rX5a F hT hI) rfl ⟨Nat.le_of_ble_eq_true rfl, Nat.le_of_ble_eq_true rfl⟩ ⟨Nat.zero_le _, Nat.zero_le _⟩ rfl (Nat.le_of_ble_eq_true rfl) dL_isStep_559) (fun r38 v39 H locs hI hp37 => ?_)
        obtain ⟨hq40, hC41⟩ := u_choose hp37 hXa (by omega) (by omega) (by omega) (by omega)
        refine tI (show _ = (-100000001 : Int32) from hq40) ?_
        refine zc F K_L_35 dL_isStep_562 ?_
        refine lv_icmp_ne (tgt := 571) hx hy dL_isStep_564 (by decide) (fun q => absurd q (by decide)) (fun _ => ?_)
        refine lv_iconst (v := nI 1) hx hy dL_isStep_567 (by decide) ?_
        refine lv_goto (tgt := 637) hx hy dL_isStep_568 (by decide) ?_
        exact rZ2 hQ F rfl hI dL_isStep_637 ⟨rfl, X, Y, hR, hC41, hCb⟩
set_option maxHeartbeats 400000 in
set_option maxRecDepth 100000 in
theorem sg638 {p : Program} {l : Launch} {e : Env} {s : State} {m : MethodId} {args : Array Value} {below : List Frame} {meth : Method} {co : Code} {H : Heap} {locs : List Loc} {ls : Array Slot} {Q : State → Prop} {E0 E1 E2 : EV} {u w : SS} {X Y : XS} (hQ : MQ below (Q2 E0 E1 E2 P2) args s 0 0 (eR E0) = Q) (F : Fx E0 p s m args meth co cL_isStep 13 RL (some .boolean)) (hT : Two E0 E1 E2) (hI : Iv2 E0 E1 E2 s H locs u w) (hCa : RepC u.1 X) (hCb : RepC w.1 Y) (hR : Rl X Y) (x y z : Int32) (n i j k : Nat) (hn : X.1.1 = n) (hi : i < n + 1) (hj : j < n + 1) (hk3 : k < n + 1) (hlt : n < 8) (hl : lv_has ls 13 [(0, .ref (eA E1 0)), (1, .ref (eA E2 0)), (2, .int (x)), (3, .int (y)), (4, .int (nI n)), (5, .int (z)), (6, .int (nI i)), (7, .int (nI j)), (8, .int (nI k))]) : W p l e (Rm 9 221) s m args below meth co H locs 0 0 Q (F0 m 638 ls []) := by
  have hx := F.1
  have hy := F.2.1
  have hXa := hR.1
  have hXb := hR.2.1
  have h8 := hR.2.2.1
  have hYn := hR.2.2.2.1
  have hYl := hR.2.2.2.2.1
  have hl1 := hXa.1.2.1
  have hl2 := hXa.1.2.2.1
  refine lv_iload hx hy dL_isStep_638 (lv_at hl 6 rfl) ?_
  refine lv_iload hx hy dL_isStep_640 (lv_at hl 4 rfl) ?_
  refine lv_icmp_ne (tgt := 664) hx hy dL_isStep_642 (by decide) (fun h1 => ?_) (fun h1 => ?_)
  · have h1 : i ≠ n := fun q9 => h1 ((nI_eq (a := i) (b := n) (by omega) (by omega)).mpr q9)
    refine lv_aload_n hx hy dL_isStep_664 rfl (lv_at hl 0 rfl) ?_
    refine lv_iload hx hy dL_isStep_665 (lv_at hl 6 rfl) ?_
    refine za hT hI (xVa F hT hI hl (kX5_turn l E1 u (X := X) hCa hXa (nI i)) M_L_28 (rX5a F hT hI) rfl ⟨Nat.le_of_ble_eq_true rfl, Nat.le_of_ble_eq_true rfl⟩ ⟨Nat.zero_le _, Nat.zero_le _⟩ rfl (Nat.le_of_ble_eq_true rfl) dL_isStep_667) (fun r3 v4 H locs hI hp2 => ?_)
    obtain ⟨hq5, hC6, hX7⟩ := t_turn (m := n) hp2 hXa (by first | omega | (simp only [addS_n, dropS_n]; omega)) (by omega) (by omega)
    refine tI (show _ = nI n from hq5) ?_
    refine lv_iload hx hy dL_isStep_670 (lv_at hl 4 rfl) ?_
    refine lv_icmp_ne (tgt := 711) hx hy dL_isStep_672 (by decide) (fun q => absurd rfl q) (fun h8 => ?_)
    refine lv_aload_n hx hy dL_isStep_675 rfl (lv_at hl 1 rfl) ?_
    refine lv_iconst (v := nI 2) hx hy dL_isStep_676 (by decide) ?_
    refine lv_iload hx hy dL_isStep_677 (lv_at hl 6 rfl) ?_
    refine lv_imul hx hy dL_isStep_679 ?_
    refine tI (pk_mul (2) (i)) ?_
    refine zb hT hI (xVb F hT hI hl (kX5_turn l E2 w (X := Y) hCb hXb (nI (2 * i))) M_L_28 (rX5b F hT hI) rfl ⟨Nat.le_of_ble_eq_true rfl, Nat.le_of_ble_eq_true rfl⟩ ⟨Nat.zero_le _, Nat.zero_le _⟩ rfl (Nat.le_of_ble_eq_true rfl) dL_isStep_680) (fun r10 v11 H locs hI hp9 => ?_)
    obtain ⟨hq12, hC13, hX14⟩ := t_turn (m := 2 * n) hp9 hXb (by first | omega | (simp only [addS_n, dropS_n]; omega)) (by omega) (by omega)
    refine tI (show _ = nI (2 * n) from hq12) ?_
    refine lv_iconst (v := nI 2) hx hy dL_isStep_683 (by decide) ?_
    refine lv_iload hx hy dL_isStep_684 (lv_at hl 4 rfl) ?_
    refine lv_imul hx hy dL_isStep_686 ?_
    refine tI (pk_mul (2) (n)) ?_
    refine lv_icmp_ne (tgt := 711) hx hy dL_isStep_687 (by decide) (fun q => absurd rfl q) (fun h15 => ?_)
    refine lv_aload_n hx hy dL_isStep_690 rfl (lv_at hl 1 rfl) ?_
    refine lv_iconst (v := nI 2) hx hy dL_isStep_691 (by decide) ?_
    refine lv_iload hx hy dL_isStep_692 (lv_at hl 4 rfl) ?_
    refine lv_imul hx hy dL_isStep_694 ?_
    refine tI (pk_mul (2) (n)) ?_
    refine zb hT hI (xVb F hT hI hl (kX5_turn l E2 v11 (X := (addS Y (5, 2 * i, 0, 0))) hC13 hX14 (nI (2 * n))) M_L_28 (rX5b F hT hI) rfl ⟨Nat.le_of_ble_eq_true rfl, Nat.le_of_ble_eq_true rfl⟩ ⟨Nat.zero_le _, Nat.zero_le _⟩ rfl (Nat.le_of_ble_eq_true rfl) dL_isStep_695) (fun r17 v18 H locs hI hp16 => ?_)
    obtain ⟨hq19, hC20, hX21⟩ := t_turn (m := 2 * n + 1) hp16 hX14 (by first | omega | (simp only [addS_n, dropS_n]; omega)) (by omega) (by omega)
    refine tI (show _ = nI (2 * n + 1) from hq19) ?_
    refine lv_iconst (v := nI 2) hx hy dL_isStep_698 (by decide) ?_
    refine lv_iload hx hy dL_isStep_699 (lv_at hl 4 rfl) ?_
    refine lv_imul hx hy dL_isStep_701 ?_
    refine tI (pk_mul (2) (n)) ?_
    refine lv_iconst (v := nI 1) hx hy dL_isStep_702 (by decide) ?_
    refine lv_iadd hx hy dL_isStep_703 ?_
    refine tI (nI_add (2 * n) (1)) ?_
    refine lv_icmp_ne (tgt := 711) hx hy dL_isStep_704 (by decide) (fun q => absurd rfl q) (fun h22 => ?_)
    refine lv_iconst (v := nI 1) hx hy dL_isStep_707 (by decide) ?_
    refine lv_goto (tgt := 712) hx hy dL_isStep_708 (by decide) ?_
    exact rZ2 hQ F rfl hI dL_isStep_712 ⟨rfl, _, _, hR.add9 hn (by omega) (pr_tn _ _ _ _ _) hX7 hX21, hC6, hC20⟩
  · have h1 : i = n := (nI_eq (a := i) (b := n) (by omega) (by omega)).mp h1
    refine lv_aload_n hx hy dL_isStep_645 rfl (lv_at hl 0 rfl) ?_
    refine lv_iload hx hy dL_isStep_646 (lv_at hl 6 rfl) ?_
    refine za hT hI (xVa F hT hI hl (kX5_turn l E1 u (X := X) hCa hXa (nI i)) M_L_28 (rX5a F hT hI) rfl ⟨Nat.le_of_ble_eq_true rfl, Nat.le_of_ble_eq_true rfl⟩ ⟨Nat.zero_le _, Nat.zero_le _⟩ rfl (Nat.le_of_ble_eq_true rfl) dL_isStep_648) (fun r24 v25 H locs hI hp23 => ?_)
    obtain ⟨hq26, hC27⟩ := u_turn hp23 hXa (by omega)
    refine tI (show _ = (-100000001 : Int32) from hq26) ?_
    refine zc F K_L_35 dL_isStep_651 ?_
    refine lv_icmp_ne (tgt := 660) hx hy dL_isStep_653 (by decide) (fun q => absurd q (by decide)) (fun _ => ?_)
    refine lv_iconst (v := nI 1) hx hy dL_isStep_656 (by decide) ?_
    refine lv_goto (tgt := 712) hx hy dL_isStep_657 (by decide) ?_
    exact rZ2 hQ F rfl hI dL_isStep_712 ⟨rfl, X, Y, hR, hC27, hCb⟩
set_option maxHeartbeats 400000 in
set_option maxRecDepth 100000 in
theorem sg713 {p : Program} {l : Launch} {e : Env} {s : State} {m : MethodId} {args : Array Value} {below : List Frame} {meth : Method} {co : Code} {H : Heap} {locs : List Loc} {ls : Array Slot} {Q : State → Prop} {E0 E1 E2 : EV} {u w : SS} {X Y : XS} (hQ : MQ below (Q2 E0 E1 E2 P2) args s 0 0 (eR E0) = Q) (F : Fx E0 p s m args meth co cL_isStep 13 RL (some .boolean)) (hT : Two E0 E1 E2) (hI : Iv2 E0 E1 E2 s H locs u w) (hCa : RepC u.1 X) (hCb : RepC w.1 Y) (hR : Rl X Y) (x y z : Int32) (n i j k : Nat) (hn : X.1.1 = n) (hi : i < n + 1) (hj : j < n + 1) (hk3 : k < n + 1) (hlt : n < 8) (hl : lv_has ls 13 [(0, .ref (eA E1 0)), (1, .ref (eA E2 0)), (2, .int (x)), (3, .int (y)), (4, .int (nI n)), (5, .int (z)), (6, .int (nI i)), (7, .int (nI j)), (8, .int (nI k))]) : W p l e (Rm 9 221) s m args below meth co H locs 0 0 Q (F0 m 713 ls []) := by
  have hx := F.1
  have hy := F.2.1
  have hXa := hR.1
  have hXb := hR.2.1
  have h8 := hR.2.2.1
  have hYn := hR.2.2.2.1
  have hYl := hR.2.2.2.2.1
  have hl1 := hXa.1.2.1
  have hl2 := hXa.1.2.2.1
  refine lv_iconst (v := nI 1) hx hy dL_isStep_713 (by decide) ?_
  refine lv_iload hx hy dL_isStep_714 (lv_at hl 5 rfl) ?_
  refine lv_bipush (v := nI 60) hx hy dL_isStep_716 (by decide) ?_
  refine za hT hI (xSa F hT hI hl (kL_up l E1 u z 60 (by omega) (by omega)) M_L_15 rfl ⟨Nat.le_of_ble_eq_true rfl, Nat.le_of_ble_eq_true rfl⟩ ⟨Nat.zero_le _, Nat.zero_le _⟩ rfl (Nat.le_of_ble_eq_true rfl) dL_isStep_718) (fun r2 v3 H locs hI hp1 => ?_)
  obtain ⟨d, hd, hp1⟩ := hp1
  subst hp1
  have hI : Iv2 E0 E1 E2 s H locs u w := hI
  refine lv_iadd hx hy dL_isStep_721 ?_
  refine tI (nI_add (1) (d)) ?_
  refine lv_istore (lv' := [(10, .int (nI (1 + d))), (0, .ref (eA E1 0)), (1, .ref (eA E2 0)), (2, .int (x)), (3, .int (y)), (4, .int (nI n)), (5, .int (z)), (6, .int (nI i)), (7, .int (nI j)), (8, .int (nI k))]) hx hy dL_isStep_722 hl (by decide) rfl (fun ls hl => ?_)
  refine lv_iload hx hy dL_isStep_724 (lv_at hl 7 rfl) ?_
  refine lv_iload hx hy dL_isStep_726 (lv_at hl 5 rfl) ?_
  refine lv_icmp_ne (tgt := 751) hx hy dL_isStep_728 (by decide) (fun h4 => ?_) (fun h4 => ?_)
  · have h4 : i ≠ n := fun q9 => h4 ((nI_eq (a := i) (b := n) (by omega) (by omega)).mpr q9)
    refine lv_aload_n hx hy dL_isStep_751 rfl (lv_at hl 1 rfl) ?_
    refine lv_iload hx hy dL_isStep_752 (lv_at hl 7 rfl) ?_
    refine lv_iload hx hy dL_isStep_754 (lv_at hl 0 rfl) ?_
    refine za hT hI (xVa F hT hI hl (kX5_delay l E1 u (X := X) hCa hXa (nI i) (nI (1 + d))) M_L_45 (rX5a F hT hI) rfl ⟨Nat.le_of_ble_eq_true rfl, Nat.le_of_ble_eq_true rfl⟩ ⟨Nat.zero_le _, Nat.zero_le _⟩ rfl (Nat.le_of_ble_eq_true rfl) dL_isStep_756) (fun r6 v7 H locs hI hp5 => ?_)
    obtain ⟨hq8, hC9, hX10⟩ := t_delay (m := n) hp5 hXa (by first | omega | (simp only [addS_n, dropS_n]; omega)) (by omega) (by omega) (by omega) (by omega)
    refine tI (show _ = nI n from hq8) ?_
    refine lv_iload hx hy dL_isStep_759 (lv_at hl 5 rfl) ?_
    refine lv_icmp_ne (tgt := 802) hx hy dL_isStep_761 (by decide) (fun q => absurd rfl q) (fun h11 => ?_)
    refine lv_aload_n hx hy dL_isStep_764 rfl (lv_at hl 2 rfl) ?_
    refine lv_iconst (v := nI 2) hx hy dL_isStep_765 (by decide) ?_
    refine lv_iload hx hy dL_isStep_766 (lv_at hl 7 rfl) ?_
    refine lv_imul hx hy dL_isStep_768 ?_
    refine tI (pk_mul (2) (i)) ?_
    refine lv_iload hx hy dL_isStep_769 (lv_at hl 0 rfl) ?_
    refine zb hT hI (xVb F hT hI hl (kX5_delay l E2 w (X := Y) hCb hXb (nI (2 * i)) (nI (1 + d))) M_L_45 (rX5b F hT hI) rfl ⟨Nat.le_of_ble_eq_true rfl, Nat.le_of_ble_eq_true rfl⟩ ⟨Nat.zero_le _, Nat.zero_le _⟩ rfl (Nat.le_of_ble_eq_true rfl) dL_isStep_771) (fun r13 v14 H locs hI hp12 => ?_)
    obtain ⟨hq15, hC16, hX17⟩ := t_delay (m := 2 * n) hp12 hXb (by first | omega | (simp only [addS_n, dropS_n]; omega)) (by omega) (by omega) (by omega) (by omega)
    refine tI (show _ = nI (2 * n) from hq15) ?_
    refine lv_iconst (v := nI 2) hx hy dL_isStep_774 (by decide) ?_
    refine lv_iload hx hy dL_isStep_775 (lv_at hl 5 rfl) ?_
    refine lv_imul hx hy dL_isStep_777 ?_
    refine tI (pk_mul (2) (n)) ?_
    refine lv_icmp_ne (tgt := 802) hx hy dL_isStep_778 (by decide) (fun q => absurd rfl q) (fun h18 => ?_)
    refine lv_aload_n hx hy dL_isStep_781 rfl (lv_at hl 2 rfl) ?_
    refine lv_iconst (v := nI 2) hx hy dL_isStep_782 (by decide) ?_
    refine lv_iload hx hy dL_isStep_783 (lv_at hl 5 rfl) ?_
    refine lv_imul hx hy dL_isStep_785 ?_
    refine tI (pk_mul (2) (n)) ?_
    refine zb hT hI (xVb F hT hI hl (kX5_turn l E2 v14 (X := (addS Y (6, 2 * i, 1 + d, 0))) hC16 hX17 (nI (2 * n))) M_L_28 (rX5b F hT hI) rfl ⟨Nat.le_of_ble_eq_true rfl, Nat.le_of_ble_eq_true rfl⟩ ⟨Nat.zero_le _, Nat.zero_le _⟩ rfl (Nat.le_of_ble_eq_true rfl) dL_isStep_786) (fun r20 v21 H locs hI hp19 => ?_)
    obtain ⟨hq22, hC23, hX24⟩ := t_turn (m := 2 * n + 1) hp19 hX17 (by first | omega | (simp only [addS_n, dropS_n]; omega)) (by omega) (by omega)
    refine tI (show _ = nI (2 * n + 1) from hq22) ?_
    refine lv_iconst (v := nI 2) hx hy dL_isStep_789 (by decide) ?_
    refine lv_iload hx hy dL_isStep_790 (lv_at hl 5 rfl) ?_
    refine lv_imul hx hy dL_isStep_792 ?_
    refine tI (pk_mul (2) (n)) ?_
    refine lv_iconst (v := nI 1) hx hy dL_isStep_793 (by decide) ?_
    refine lv_iadd hx hy dL_isStep_794 ?_
    refine tI (nI_add (2 * n) (1)) ?_
    refine lv_icmp_ne (tgt := 802) hx hy dL_isStep_795 (by decide) (fun q => absurd rfl q) (fun h25 => ?_)
    refine lv_iconst (v := nI 1) hx hy dL_isStep_798 (by decide) ?_
    refine lv_goto (tgt := 803) hx hy dL_isStep_799 (by decide) ?_
    exact rZ2 hQ F rfl hI dL_isStep_803 ⟨rfl, _, _, hR.add9 hn (by omega) (pr_dl _ _ _ _) hX10 hX24, hC9, hC23⟩
  · have h4 : i = n := (nI_eq (a := i) (b := n) (by omega) (by omega)).mp h4
    refine lv_aload_n hx hy dL_isStep_731 rfl (lv_at hl 1 rfl) ?_
    refine lv_iload hx hy dL_isStep_732 (lv_at hl 7 rfl) ?_
    refine lv_iconst (v := nI 1) hx hy dL_isStep_734 (by decide) ?_
    refine za hT hI (xVa F hT hI hl (kX5_delay l E1 u (X := X) hCa hXa (nI i) (nI 1)) M_L_45 (rX5a F hT hI) rfl ⟨Nat.le_of_ble_eq_true rfl, Nat.le_of_ble_eq_true rfl⟩ ⟨Nat.zero_le _, Nat.zero_le _⟩ rfl (Nat.le_of_ble_eq_true rfl) dL_isStep_735) (fun r27 v28 H locs hI hp26 => ?_)
    obtain ⟨hq29, hC30⟩ := u_delay hp26 hXa (by omega)
    refine tI (show _ = (-100000001 : Int32) from hq29) ?_
    refine zc F K_L_35 dL_isStep_738 ?_
    refine lv_icmp_ne (tgt := 747) hx hy dL_isStep_740 (by decide) (fun q => absurd q (by decide)) (fun _ => ?_)
    refine lv_iconst (v := nI 1) hx hy dL_isStep_743 (by decide) ?_
    refine lv_goto (tgt := 803) hx hy dL_isStep_744 (by decide) ?_
    exact rZ2 hQ F rfl hI dL_isStep_803 ⟨rfl, X, Y, hR, hC30, hCb⟩
set_option maxHeartbeats 400000 in
set_option maxRecDepth 100000 in
theorem sg804 {p : Program} {l : Launch} {e : Env} {s : State} {m : MethodId} {args : Array Value} {below : List Frame} {meth : Method} {co : Code} {H : Heap} {locs : List Loc} {ls : Array Slot} {Q : State → Prop} {E0 E1 E2 : EV} {u w : SS} {X Y : XS} (hQ : MQ below (Q2 E0 E1 E2 P2) args s 0 0 (eR E0) = Q) (F : Fx E0 p s m args meth co cL_isStep 13 RL (some .boolean)) (hT : Two E0 E1 E2) (hI : Iv2 E0 E1 E2 s H locs u w) (hCa : RepC u.1 X) (hCb : RepC w.1 Y) (hR : Rl X Y) (x y z : Int32) (n i j k : Nat) (hn : X.1.1 = n) (hi : i < n + 1) (hj : j < n + 1) (hk3 : k < n + 1) (hl : lv_has ls 13 [(0, .ref (eA E1 0)), (1, .ref (eA E2 0)), (2, .int (x)), (3, .int (y)), (4, .int (nI n)), (5, .int (z)), (6, .int (nI i)), (7, .int (nI j)), (8, .int (nI k))]) : W p l e (Rm 9 221) s m args below meth co H locs 0 0 Q (F0 m 804 ls []) := by
  have hx := F.1
  have hy := F.2.1
  have hXa := hR.1
  have hXb := hR.2.1
  have h8 := hR.2.2.1
  have hYn := hR.2.2.2.1
  have hYl := hR.2.2.2.2.1
  have hl1 := hXa.1.2.1
  have hl2 := hXa.1.2.2.1
  refine lv_iload hx hy dL_isStep_804 (lv_at hl 5 rfl) ?_
  refine lv_sipush (v := nI 257) hx hy dL_isStep_806 (by decide) ?_
  refine za hT hI (xSa F hT hI hl (kL_up l E1 u z 257 (by omega) (by omega)) M_L_15 rfl ⟨Nat.le_of_ble_eq_true rfl, Nat.le_of_ble_eq_true rfl⟩ ⟨Nat.zero_le _, Nat.zero_le _⟩ rfl (Nat.le_of_ble_eq_true rfl) dL_isStep_809) (fun r2 v3 H locs hI hp1 => ?_)
  obtain ⟨a, ha, hp1⟩ := hp1
  subst hp1
  have hI : Iv2 E0 E1 E2 s H locs u w := hI
  refine lv_istore (lv' := [(10, .int (nI a)), (0, .ref (eA E1 0)), (1, .ref (eA E2 0)), (2, .int (x)), (3, .int (y)), (4, .int (nI n)), (5, .int (z)), (6, .int (nI i)), (7, .int (nI j)), (8, .int (nI k))]) hx hy dL_isStep_812 hl (by decide) rfl (fun ls hl => ?_)
  refine lv_iconst (v := nI 1) hx hy dL_isStep_814 (by decide) ?_
  refine lv_iload_n hx hy dL_isStep_815 rfl (lv_at hl 4 rfl) ?_
  refine lv_bipush (v := nI 9) hx hy dL_isStep_816 (by decide) ?_
  refine lv_ishr hx hy dL_isStep_818 ?_
  refine lv_sipush (v := nI 255) hx hy dL_isStep_819 (by decide) ?_
  refine za hT hI (xSa F hT hI hl (kL_up l E1 u (y >>> ((nI 9) &&& 31)) 255 (by omega) (by omega)) M_L_15 rfl ⟨Nat.le_of_ble_eq_true rfl, Nat.le_of_ble_eq_true rfl⟩ ⟨Nat.zero_le _, Nat.zero_le _⟩ rfl (Nat.le_of_ble_eq_true rfl) dL_isStep_822) (fun r5 v6 H locs hI hp4 => ?_)
  obtain ⟨b, hb, hp4⟩ := hp4
  subst hp4
  have hI : Iv2 E0 E1 E2 s H locs u w := hI
  refine lv_iadd hx hy dL_isStep_825 ?_
  refine tI (nI_add (1) (b)) ?_
  refine lv_istore (lv' := [(11, .int (nI (1 + b))), (10, .int (nI a)), (0, .ref (eA E1 0)), (1, .ref (eA E2 0)), (2, .int (x)), (3, .int (y)), (4, .int (nI n)), (5, .int (z)), (6, .int (nI i)), (7, .int (nI j)), (8, .int (nI k))]) hx hy dL_isStep_826 hl (by decide) rfl (fun ls hl => ?_)
  refine lv_iload hx hy dL_isStep_828 (lv_at hl 8 rfl) ?_
  refine lv_iload hx hy dL_isStep_830 (lv_at hl 6 rfl) ?_
  refine lv_icmp_ne (tgt := 856) hx hy dL_isStep_832 (by decide) (fun h7 => ?_) (fun h7 => ?_)
  · have h7 : i ≠ n := fun q9 => h7 ((nI_eq (a := i) (b := n) (by omega) (by omega)).mpr q9)
    have hP := (hR.2.2.2.2.2 i (by omega)).1
    have hki := (hXa.1.2.2.2 i (by omega)).1
    rcases Decidable.em ((X.1.2.2 i).1 = 0) with hk | hk
    · have hkb : (Y.1.2.2 (2 * i)).1 = 0 := hP.1.trans hk
      by_cases he : (X.1.2.2 i).2.1 = a ∧ (X.1.2.2 i).2.2.1 = 1 + b
      · have heb : (Y.1.2.2 (2 * i)).2.1 = a ∧ (Y.1.2.2 (2 * i)).2.2.1 = 1 + b := ⟨(hP.2.1 hk).1.trans he.1, (hP.2.1 hk).2.trans he.2⟩
        refine lv_aload_n hx hy dL_isStep_856 rfl (lv_at hl 2 rfl) ?_
        refine lv_iload hx hy dL_isStep_857 (lv_at hl 8 rfl) ?_
        refine lv_iload hx hy dL_isStep_859 (lv_at hl 1 rfl) ?_
        refine lv_iload hx hy dL_isStep_861 (lv_at hl 0 rfl) ?_
        refine za hT hI (xVa F hT hI hl (kX5_reseed l E1 u (X := X) hCa hXa (nI i) (nI a) (nI (1 + b))) M_L_48 (rX5a F hT hI) rfl ⟨Nat.le_of_ble_eq_true rfl, Nat.le_of_ble_eq_true rfl⟩ ⟨Nat.zero_le _, Nat.zero_le _⟩ rfl (Nat.le_of_ble_eq_true rfl) dL_isStep_863) (fun r9 v10 H locs hI hp8 => ?_)
        obtain ⟨hq11, hC12⟩ := t_reseed_no hp8 hXa (by omega) (by omega) (by omega) (by omega) hk he
        refine tI (show _ = (-100000005 : Int32) from hq11) ?_
        refine lv_istore (lv' := [(12, .int ((-100000005))), (11, .int (nI (1 + b))), (10, .int (nI a)), (0, .ref (eA E1 0)), (1, .ref (eA E2 0)), (2, .int (x)), (3, .int (y)), (4, .int (nI n)), (5, .int (z)), (6, .int (nI i)), (7, .int (nI j)), (8, .int (nI k))]) hx hy dL_isStep_866 hl (by decide) rfl (fun ls hl => ?_)
        refine lv_iload hx hy dL_isStep_868 (lv_at hl 0 rfl) ?_
        refine lv_aload_n hx hy dL_isStep_870 rfl (lv_at hl 4 rfl) ?_
        refine lv_iconst (v := nI 2) hx hy dL_isStep_871 (by decide) ?_
        refine lv_iload hx hy dL_isStep_872 (lv_at hl 9 rfl) ?_
        refine lv_imul hx hy dL_isStep_874 ?_
        refine tI (pk_mul (2) (i)) ?_
        refine lv_iload hx hy dL_isStep_875 (lv_at hl 2 rfl) ?_
        refine lv_iload hx hy dL_isStep_877 (lv_at hl 1 rfl) ?_
        refine zb hT hI (xVb F hT hI hl (kX5_reseed l E2 w (X := Y) hCb hXb (nI (2 * i)) (nI a) (nI (1 + b))) M_L_48 (rX5b F hT hI) rfl ⟨Nat.le_of_ble_eq_true rfl, Nat.le_of_ble_eq_true rfl⟩ ⟨Nat.zero_le _, Nat.zero_le _⟩ rfl (Nat.le_of_ble_eq_true rfl) dL_isStep_879) (fun r15 v16 H locs hI hp14 => ?_)
        obtain ⟨hq17, hC18⟩ := t_reseed_no hp14 hXb (by omega) (by omega) (by omega) (by omega) hkb heb
        refine tI (show _ = (-100000005 : Int32) from hq17) ?_
        refine lv_icmp_ne (tgt := 919) hx hy dL_isStep_882 (by decide) (fun q => absurd q (by decide)) (fun _ => ?_)
        refine lv_iload hx hy dL_isStep_885 (lv_at hl 0 rfl) ?_
        refine zc F K_L_51 dL_isStep_887 ?_
        refine lv_icmp_ne (tgt := 896) hx hy dL_isStep_889 (by decide) (fun _ => ?_) (fun q => absurd q (by decide))
        refine lv_iconst (v := nI 0) hx hy dL_isStep_896 (by decide) ?_
        refine lv_aload_n hx hy dL_isStep_897 rfl (lv_at hl 3 rfl) ?_
        refine lv_iload hx hy dL_isStep_898 (lv_at hl 9 rfl) ?_
        refine lv_iconst (v := nI 0) hx hy dL_isStep_900 (by decide) ?_
        refine za hT hI (xVa F hT hI hl (kX5_line l E1 v10 (X := X) hC12 hXa (nI i) (nI 0)) M_L_36 (rX5a F hT hI) rfl ⟨Nat.le_of_ble_eq_true rfl, Nat.le_of_ble_eq_true rfl⟩ ⟨Nat.zero_le _, Nat.zero_le _⟩ rfl (Nat.le_of_ble_eq_true rfl) dL_isStep_901) (fun r21 v22 H locs hI hp20 => ?_)
        obtain ⟨hq23, hC24⟩ := q_line hp20 hXa (show i < X.1.1 by omega) (by decide)
        refine tI (show _ = nI 0 from hq23.trans (congrArg nI hk)) ?_
        refine lv_if_le (tgt := 911) hx hy dL_isStep_904 (by decide) (fun _ => ?_) (fun q => absurd q (by decide))
        refine lv_iconst (v := nI 0) hx hy dL_isStep_911 (by decide) ?_
        refine lv_icmp_ne (tgt := 919) hx hy dL_isStep_912 (by decide) (fun q => absurd q (by decide)) (fun _ => ?_)
        refine lv_iconst (v := nI 1) hx hy dL_isStep_915 (by decide) ?_
        refine lv_goto (tgt := 920) hx hy dL_isStep_916 (by decide) ?_
        exact rZ2 hQ F rfl hI dL_isStep_920 ⟨rfl, X, Y, hR, hC24, hC18⟩
      · have heb : ¬ ((Y.1.2.2 (2 * i)).2.1 = a ∧ (Y.1.2.2 (2 * i)).2.2.1 = 1 + b) := fun q9 => he ⟨(hP.2.1 hk).1.symm.trans q9.1, (hP.2.1 hk).2.symm.trans q9.2⟩
        have h256 := ((hXa.1.2.2.2 i (by omega)).2.1 hk).1
        have h257 := ((hXb.1.2.2.2 (2 * i) (by omega)).2.1 hkb).1
        refine lv_aload_n hx hy dL_isStep_856 rfl (lv_at hl 2 rfl) ?_
        refine lv_iload hx hy dL_isStep_857 (lv_at hl 8 rfl) ?_
        refine lv_iload hx hy dL_isStep_859 (lv_at hl 1 rfl) ?_
        refine lv_iload hx hy dL_isStep_861 (lv_at hl 0 rfl) ?_
        refine za hT hI (xVa F hT hI hl (kX5_reseed l E1 u (X := X) hCa hXa (nI i) (nI a) (nI (1 + b))) M_L_48 (rX5a F hT hI) rfl ⟨Nat.le_of_ble_eq_true rfl, Nat.le_of_ble_eq_true rfl⟩ ⟨Nat.zero_le _, Nat.zero_le _⟩ rfl (Nat.le_of_ble_eq_true rfl) dL_isStep_863) (fun r26 v27 H locs hI hp25 => ?_)
        obtain ⟨hq28, hC29, hX30⟩ := t_reseed hp25 hXa (by omega) (by omega) (by omega) (by omega) hk he
        refine tI (show _ = nI ((X.1.2.2 i).2.1) from hq28) ?_
        refine lv_istore (lv' := [(12, .int (nI ((X.1.2.2 i).2.1))), (11, .int (nI (1 + b))), (10, .int (nI a)), (0, .ref (eA E1 0)), (1, .ref (eA E2 0)), (2, .int (x)), (3, .int (y)), (4, .int (nI n)), (5, .int (z)), (6, .int (nI i)), (7, .int (nI j)), (8, .int (nI k))]) hx hy dL_isStep_866 hl (by decide) rfl (fun ls hl => ?_)
        refine lv_iload hx hy dL_isStep_868 (lv_at hl 0 rfl) ?_
        refine lv_aload_n hx hy dL_isStep_870 rfl (lv_at hl 4 rfl) ?_
        refine lv_iconst (v := nI 2) hx hy dL_isStep_871 (by decide) ?_
        refine lv_iload hx hy dL_isStep_872 (lv_at hl 9 rfl) ?_
        refine lv_imul hx hy dL_isStep_874 ?_
        refine tI (pk_mul (2) (i)) ?_
        refine lv_iload hx hy dL_isStep_875 (lv_at hl 2 rfl) ?_
        refine lv_iload hx hy dL_isStep_877 (lv_at hl 1 rfl) ?_
        refine zb hT hI (xVb F hT hI hl (kX5_reseed l E2 w (X := Y) hCb hXb (nI (2 * i)) (nI a) (nI (1 + b))) M_L_48 (rX5b F hT hI) rfl ⟨Nat.le_of_ble_eq_true rfl, Nat.le_of_ble_eq_true rfl⟩ ⟨Nat.zero_le _, Nat.zero_le _⟩ rfl (Nat.le_of_ble_eq_true rfl) dL_isStep_879) (fun r32 v33 H locs hI hp31 => ?_)
        obtain ⟨hq34, hC35, hX36⟩ := t_reseed hp31 hXb (by omega) (by omega) (by omega) (by omega) hkb heb
        refine tI (show _ = nI ((Y.1.2.2 (2 * i)).2.1) from hq34) ?_
        refine lv_icmp_ne (tgt := 919) hx hy dL_isStep_882 (by decide) (fun q => absurd (congrArg nI (hP.2.1 hk).1.symm) q) (fun h37 => ?_)
        refine lv_iload hx hy dL_isStep_885 (lv_at hl 0 rfl) ?_
        refine zc F K_L_51 dL_isStep_887 ?_
        refine lv_icmp_ne (tgt := 896) hx hy dL_isStep_889 (by decide) (fun h38 => ?_) (fun q => absurd q (nI_NPO (by omega)))
        refine lv_iconst (v := nI 0) hx hy dL_isStep_896 (by decide) ?_
        refine lv_aload_n hx hy dL_isStep_897 rfl (lv_at hl 3 rfl) ?_
        refine lv_iload hx hy dL_isStep_898 (lv_at hl 9 rfl) ?_
        refine lv_iconst (v := nI 0) hx hy dL_isStep_900 (by decide) ?_
        refine za hT hI (xVa F hT hI hl (kX5_line l E1 v27 (X := (seedS X i a (1 + b))) hC29 hX30 (nI i) (nI 0)) M_L_36 (rX5a F hT hI) rfl ⟨Nat.le_of_ble_eq_true rfl, Nat.le_of_ble_eq_true rfl⟩ ⟨Nat.zero_le _, Nat.zero_le _⟩ rfl (Nat.le_of_ble_eq_true rfl) dL_isStep_901) (fun r40 v41 H locs hI hp39 => ?_)
        obtain ⟨hq42, hC43⟩ := q_line hp39 hX30 (show i < X.1.1 by omega) (by decide)
        refine tI (show _ = nI 0 from hq42.trans (congrArg nI (show (setL X.1.2.2 i (0, a, 1 + b, (X.1.2.2 i).2.2.2) i).1 = 0 from by unfold setL; rw [if_pos rfl]))) ?_
        refine lv_if_le (tgt := 911) hx hy dL_isStep_904 (by decide) (fun _ => ?_) (fun q => absurd q (by decide))
        refine lv_iconst (v := nI 0) hx hy dL_isStep_911 (by decide) ?_
        refine lv_icmp_ne (tgt := 919) hx hy dL_isStep_912 (by decide) (fun q => absurd q (by decide)) (fun _ => ?_)
        refine lv_iconst (v := nI 1) hx hy dL_isStep_915 (by decide) ?_
        refine lv_goto (tgt := 920) hx hy dL_isStep_916 (by decide) ?_
        exact rZ2 hQ F rfl hI dL_isStep_920 ⟨rfl, _, _, hR.seed (by omega) hk hX30 hX36, hC43, hC35⟩
    · have hkb : (Y.1.2.2 (2 * i)).1 ≠ 0 := by rw [hP.1]; exact hk
      refine lv_aload_n hx hy dL_isStep_856 rfl (lv_at hl 2 rfl) ?_
      refine lv_iload hx hy dL_isStep_857 (lv_at hl 8 rfl) ?_
      refine lv_iload hx hy dL_isStep_859 (lv_at hl 1 rfl) ?_
      refine lv_iload hx hy dL_isStep_861 (lv_at hl 0 rfl) ?_
      refine za hT hI (xVa F hT hI hl (kX5_reseed l E1 u (X := X) hCa hXa (nI i) (nI a) (nI (1 + b))) M_L_48 (rX5a F hT hI) rfl ⟨Nat.le_of_ble_eq_true rfl, Nat.le_of_ble_eq_true rfl⟩ ⟨Nat.zero_le _, Nat.zero_le _⟩ rfl (Nat.le_of_ble_eq_true rfl) dL_isStep_863) (fun r45 v46 H locs hI hp44 => ?_)
      obtain ⟨hq47, hC48⟩ := t_reseed_np hp44 hXa (by omega) (by omega) (by omega) (by omega) hk
      refine tI (show _ = (-100000004 : Int32) from hq47) ?_
      refine lv_istore (lv' := [(12, .int ((-100000004))), (11, .int (nI (1 + b))), (10, .int (nI a)), (0, .ref (eA E1 0)), (1, .ref (eA E2 0)), (2, .int (x)), (3, .int (y)), (4, .int (nI n)), (5, .int (z)), (6, .int (nI i)), (7, .int (nI j)), (8, .int (nI k))]) hx hy dL_isStep_866 hl (by decide) rfl (fun ls hl => ?_)
      refine lv_iload hx hy dL_isStep_868 (lv_at hl 0 rfl) ?_
      refine lv_aload_n hx hy dL_isStep_870 rfl (lv_at hl 4 rfl) ?_
      refine lv_iconst (v := nI 2) hx hy dL_isStep_871 (by decide) ?_
      refine lv_iload hx hy dL_isStep_872 (lv_at hl 9 rfl) ?_
      refine lv_imul hx hy dL_isStep_874 ?_
      refine tI (pk_mul (2) (i)) ?_
      refine lv_iload hx hy dL_isStep_875 (lv_at hl 2 rfl) ?_
      refine lv_iload hx hy dL_isStep_877 (lv_at hl 1 rfl) ?_
      refine zb hT hI (xVb F hT hI hl (kX5_reseed l E2 w (X := Y) hCb hXb (nI (2 * i)) (nI a) (nI (1 + b))) M_L_48 (rX5b F hT hI) rfl ⟨Nat.le_of_ble_eq_true rfl, Nat.le_of_ble_eq_true rfl⟩ ⟨Nat.zero_le _, Nat.zero_le _⟩ rfl (Nat.le_of_ble_eq_true rfl) dL_isStep_879) (fun r51 v52 H locs hI hp50 => ?_)
      obtain ⟨hq53, hC54⟩ := t_reseed_np hp50 hXb (by omega) (by omega) (by omega) (by omega) hkb
      refine tI (show _ = (-100000004 : Int32) from hq53) ?_
      refine lv_icmp_ne (tgt := 919) hx hy dL_isStep_882 (by decide) (fun q => absurd q (by decide)) (fun _ => ?_)
      refine lv_iload hx hy dL_isStep_885 (lv_at hl 0 rfl) ?_
      refine zc F K_L_51 dL_isStep_887 ?_
      refine lv_icmp_ne (tgt := 896) hx hy dL_isStep_889 (by decide) (fun q => absurd q (by decide)) (fun _ => ?_)
      refine lv_iconst (v := nI 1) hx hy dL_isStep_892 (by decide) ?_
      refine lv_goto (tgt := 897) hx hy dL_isStep_893 (by decide) ?_
      refine lv_aload_n hx hy dL_isStep_897 rfl (lv_at hl 3 rfl) ?_
      refine lv_iload hx hy dL_isStep_898 (lv_at hl 9 rfl) ?_
      refine lv_iconst (v := nI 0) hx hy dL_isStep_900 (by decide) ?_
      refine za hT hI (xVa F hT hI hl (kX5_line l E1 v46 (X := X) hC48 hXa (nI i) (nI 0)) M_L_36 (rX5a F hT hI) rfl ⟨Nat.le_of_ble_eq_true rfl, Nat.le_of_ble_eq_true rfl⟩ ⟨Nat.zero_le _, Nat.zero_le _⟩ rfl (Nat.le_of_ble_eq_true rfl) dL_isStep_901) (fun r57 v58 H locs hI hp56 => ?_)
      obtain ⟨hq59, hC60⟩ := q_line hp56 hXa (show i < X.1.1 by omega) (by decide)
      refine tI (show _ = nI ((X.1.2.2 i).1) from hq59.trans (rfl)) ?_
      refine lv_if_le (tgt := 911) hx hy dL_isStep_904 (by decide) (fun q => absurd q (nI_nle0 (by omega) (by omega))) (fun h61 => ?_)
      refine lv_iconst (v := nI 1) hx hy dL_isStep_907 (by decide) ?_
      refine lv_goto (tgt := 912) hx hy dL_isStep_908 (by decide) ?_
      refine lv_icmp_ne (tgt := 919) hx hy dL_isStep_912 (by decide) (fun q => absurd q (by decide)) (fun _ => ?_)
      refine lv_iconst (v := nI 1) hx hy dL_isStep_915 (by decide) ?_
      refine lv_goto (tgt := 920) hx hy dL_isStep_916 (by decide) ?_
      exact rZ2 hQ F rfl hI dL_isStep_920 ⟨rfl, X, Y, hR, hC60, hC54⟩
  · have h7 : i = n := (nI_eq (a := i) (b := n) (by omega) (by omega)).mp h7
    refine lv_aload_n hx hy dL_isStep_835 rfl (lv_at hl 2 rfl) ?_
    refine lv_iload hx hy dL_isStep_836 (lv_at hl 8 rfl) ?_
    refine lv_iload hx hy dL_isStep_838 (lv_at hl 1 rfl) ?_
    refine lv_iload hx hy dL_isStep_840 (lv_at hl 0 rfl) ?_
    refine za hT hI (xVa F hT hI hl (kX5_reseed l E1 u (X := X) hCa hXa (nI i) (nI a) (nI (1 + b))) M_L_48 (rX5a F hT hI) rfl ⟨Nat.le_of_ble_eq_true rfl, Nat.le_of_ble_eq_true rfl⟩ ⟨Nat.zero_le _, Nat.zero_le _⟩ rfl (Nat.le_of_ble_eq_true rfl) dL_isStep_842) (fun r63 v64 H locs hI hp62 => ?_)
    obtain ⟨hq65, hC66⟩ := u_reseed hp62 hXa (by omega)
    refine tI (show _ = (-100000001 : Int32) from hq65) ?_
    refine zc F K_L_35 dL_isStep_845 ?_
    refine lv_icmp_ne (tgt := 854) hx hy dL_isStep_847 (by decide) (fun q => absurd q (by decide)) (fun _ => ?_)
    refine lv_iconst (v := nI 1) hx hy dL_isStep_850 (by decide) ?_
    refine lv_goto (tgt := 855) hx hy dL_isStep_851 (by decide) ?_
    exact rZ2 hQ F rfl hI dL_isStep_855 ⟨rfl, X, Y, hR, hC66, hCb⟩
