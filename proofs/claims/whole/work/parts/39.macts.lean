theorem act_lo {h : Nat} {c0 c1 c : CF} (h3 : h ≤ 3) (hc : CpyR 43 (66 * h) 42 0 66 c0 c1) (e : c = up c1 40 0 (nI (h + 1))) : ActP h c0 c := by
  subst e
  have hm : min h 3 = h := by omega
  unfold ActP
  rw [hm]
  refine ⟨up_s _ _ _ _, fun k hk => ?_, fun i hi => ?_, fun q i h1 h2 => ?_⟩
  · rw [up_at, if_neg (by omega), hc.1 k hk, Nat.zero_add]
  · rw [up_at, if_neg (by omega), if_neg (by omega)]
    exact hc.2 _ _ (by omega)
  · rw [up_at, if_neg (by omega)]
    exact hc.2 _ _ (by omega)
theorem act_hi {h : Nat} {c0 c1 c2 c3 c : CF} (h4 : h = 4) (hb : CpyR 43 0 43 66 198 c0 c1) (e2 : c2 = up c1 40 0 (nI (h - 1))) (hc : CpyR 43 (66 * (h - 1)) 42 0 66 c2 c3) (e : c = up c3 40 0 (nI (h - 1 + 1))) : ActP h c0 c := by
  subst e e2 h4
  unfold ActP
  refine ⟨up_s _ _ _ _, fun k hk => ?_, fun i hi => ?_, fun q i h1 h2 => ?_⟩
  · rw [up_at, if_neg (by omega)]
    have := hc.1 k hk
    rw [show 66 * min 4 3 + k = 66 * (4 - 1) + k from rfl, this, up_at, if_neg (by omega), Nat.zero_add]
    exact hb.2 _ _ (by omega)
  · have hi : i < 198 := hi
    rw [up_at, if_neg (by omega), hc.2 _ _ (by omega), up_at, if_neg (by omega), if_pos rfl]
    have := hb.1 i hi
    rw [Nat.zero_add] at this
    rw [this, Nat.add_comm]
  · rw [up_at, if_neg (by omega), hc.2 _ _ (by omega), up_at, if_neg (by omega)]
    exact hb.2 _ _ (by omega)
theorem act_end {c0 v c1 c : CF} {X : XS} {z : Sg} (hC : RepM c0 X) (hX : XOk X) (hr : CpyR 42 0 41 0 66 c0 v) (ho : ∀ q i, q ≠ 41 → c1 q i = v q i) (hz : RowM c1 41 0 z) (hn : z.1 ≤ 16) (ha : ActP X.2.1.1 c1 c) : RepM c (actd X z) ∧ SameC c0 c := by
  obtain ⟨hA, hH, hS, hT⟩ := hC
  have hk : ∀ q i, q ≠ 41 → q ≠ 42 → c1 q i = c0 q i := fun q i h1 h2 => (ho q i h1).trans (hr.2 q i (by omega))
  refine ⟨ha.rep hX hn ((hr.row hA hX.1.1).keep hX.1.1 fun i _ _ => ho _ _ (by omega)) hz (hH.keep hX.2.1 (hk _ _ (by omega) (by omega)) fun i => hk _ _ (by omega) (by omega)) ⟨(hk _ _ (by omega) (by omega)).trans hS.1, fun e => (hS.2 e).keep (hX.2.2.1.2 e).1 fun i _ _ => hk _ _ (by omega) (by omega)⟩ (hT.keep (hk _ _ (by omega) (by omega)) fun i => hk _ _ (by omega) (by omega)), ?_⟩
  exact SameC.tr (fun q i hq => hk q i (by omega) (by omega)) ha.same
theorem act_hh {c0 v c1 : CF} {h : Nat} (hh : c0 40 0 = nI h) (hr : CpyR 42 0 41 0 66 c0 v) (ho : ∀ q i, q ≠ 41 → c1 q i = v q i) : c1 40 0 = nI h := ((ho 40 0 (by omega)).trans (hr.2 _ _ (by omega))).trans hh
theorem RowM.drop {c : CF} {z : Sg} {n : Nat} (h : RowM c 41 0 z) (hn : z.1 = n + 1) : RowM (up c 41 0 (nI n)) 41 0 (n, z.2) := by
  refine ⟨up_s _ _ _ _, ?_, fun j hj => ?_⟩
  · rw [up_at, if_neg (by omega)]
    exact h.2.1
  · have hj : j < n := hj
    exact (h.2.2 j (by omega)).keep fun i h1 h2 => by rw [up_at, if_neg (by omega)]
theorem RowM.len {c : CF} {z : Sg} {n : Nat} (h : RowM c 41 0 z) : RowM (up c 41 1 (nI n)) 41 0 (z.1, n, z.2.2) := by
  refine ⟨?_, up_s _ _ _ _, fun j hj => ?_⟩
  · rw [up_at, if_neg (by omega)]
    exact h.1
  · exact (h.2.2 j hj).keep fun i h1 h2 => by rw [up_at, if_neg (by omega)]
theorem RowM.src {c : CF} {z : Sg} {j a b : Nat} (h : RowM c 41 0 z) (hj : j < z.1) (hk : (z.2.2 j).1 = 0) : RowM (up (up c 41 (2 + 4 * j + 1) (nI a)) 41 (2 + 4 * j + 2) (nI b)) 41 0 (z.1, z.2.1, setL z.2.2 j (0, a, b, (z.2.2 j).2.2.2)) := by
  refine ⟨?_, ?_, fun i hi => ?_⟩
  · rw [up_at, if_neg (by omega), up_at, if_neg (by omega)]
    exact h.1
  · rw [up_at, if_neg (by omega), up_at, if_neg (by omega)]
    exact h.2.1
  · show LnM _ 41 (0 + 2 + 4 * i) (if i = j then (0, a, b, (z.2.2 j).2.2.2) else z.2.2 i)
    by_cases e : i = j
    · subst e
      rw [if_pos rfl]
      have h3 := h.2.2 i hj
      unfold LnM at h3 ⊢
      rw [show 0 + 2 + 4 * i = 2 + 4 * i from by omega] at h3 ⊢
      rw [up_at, if_neg (by omega), up_at, if_neg (by omega), up_at, if_neg (by omega), up_at, if_pos ⟨rfl, rfl⟩, up_at, if_pos ⟨rfl, rfl⟩, up_at, if_neg (by omega), up_at, if_neg (by omega)]
      refine ⟨by rw [← hk]; exact h3.1, rfl, rfl, ?_⟩
      have h4 := h3.2.2.2
      unfold wM at h4 ⊢
      rw [hk] at h4
      exact h4
    · rw [if_neg e]
      exact (h.2.2 i hi).keep fun k h1 h2 => by rw [up_at, if_neg (by omega), up_at, if_neg (by omega)]
theorem undo_repM {c0 c : CF} {X : XS} (hC : RepM c0 X) (hX : XOk X) (h1 : X.2.1.1 ≠ 0) (hc : CpyR 41 0 43 (66 * (X.2.1.1 - 1)) 66 (up c0 40 0 (nI (X.2.1.1 - 1))) c) : RepM c (X.2.1.2 (X.2.1.1 - 1), (X.2.1.1 - 1, X.2.1.2), X.2.2) ∧ SameC c0 c := by
  obtain ⟨hA, hH, hS, hT⟩ := hC
  have hk : ∀ q i, q ≠ 41 → ¬ (q = 40 ∧ i = 0) → c q i = c0 q i := fun q i a b => (hc.2 q i (by omega)).trans (by rw [up_at, if_neg (by omega)])
  have hn := (hX.2.1.2 (X.2.1.1 - 1) (by omega)).1
  refine ⟨⟨hc.row ((hH.2 (X.2.1.1 - 1) (by omega)).keep hn fun i _ _ => by rw [up_at, if_neg (by omega)]) hn, ⟨(hc.2 _ _ (by omega)).trans (up_s _ _ _ _), fun i hi => ?_⟩, ⟨(hk _ _ (by omega) (by omega)).trans hS.1, fun e => (hS.2 e).keep (hX.2.2.1.2 e).1 fun i _ _ => hk _ _ (by omega) (by omega)⟩, hT.keep (hk _ _ (by omega) (by omega)) fun i => hk _ _ (by omega) (by omega)⟩, fun q i hq => hk _ _ (by omega) (by omega)⟩
  have hi : i < X.2.1.1 - 1 := hi
  exact (hH.2 i (by omega)).keep (hX.2.1.2 i (by omega)).1 fun k _ _ => hk _ _ (by omega) (by omega)
theorem keep_repM {c0 c : CF} {X : XS} (hC : RepM c0 X) (hX : XOk X) (hc : CpyR 44 0 41 0 66 c0 c) : RepM (up c 40 1 (nI 1)) (a_keep X).2 ∧ SameC c0 (up c 40 1 (nI 1)) := by
  obtain ⟨hA, hH, hS, hT⟩ := hC
  have hk : ∀ q i, q ≠ 44 → ¬ (q = 40 ∧ i = 1) → up c 40 1 (nI 1) q i = c0 q i := fun q i a b => by
    rw [up_at, if_neg (by omega)]
    exact hc.2 q i (by omega)
  exact ⟨⟨hA.keep hX.1.1 fun i _ _ => hk _ _ (by omega) (by omega), hH.keep hX.2.1 (hk _ _ (by omega) (by omega)) fun i => hk _ _ (by omega) (by omega), ⟨up_s _ _ _ _, fun _ => (hc.row hA hX.1.1).keep hX.1.1 fun i _ _ => by rw [up_at, if_neg (by omega)]⟩, hT.keep (hk _ _ (by omega) (by omega)) fun i => hk _ _ (by omega) (by omega)⟩, fun q i hq => hk _ _ (by omega) (by omega)⟩
theorem text_repM {c0 c : CF} {X : XS} {z : Tx} (hC : RepM c0 X) (hX : XOk X) (hk : ∀ q i, q ≠ 48 → ¬ (q = 40 ∧ i = 2) → c q i = c0 q i) (hz : TxM c z) : RepM c (X.1, X.2.1, X.2.2.1, z) ∧ SameC c0 c := by
  obtain ⟨hA, hH, hS, hT⟩ := hC
  exact ⟨⟨hA.keep hX.1.1 fun i _ _ => hk _ _ (by omega) (by omega), hH.keep hX.2.1 (hk _ _ (by omega) (by omega)) fun i => hk _ _ (by omega) (by omega), ⟨(hk _ _ (by omega) (by omega)).trans hS.1, fun e => (hS.2 e).keep (hX.2.2.1.2 e).1 fun i _ _ => hk _ _ (by omega) (by omega)⟩, hz⟩, fun q i hq => hk _ _ (by omega) (by omega)⟩
theorem type_txM {c : CF} {z : Tx} {ch : Nat} (h : TxM c z) : TxM (up (up c 48 z.1 (nI ch)) 40 2 (nI (z.1 + 1))) (z.1 + 1, fun i => if i = z.1 then ch else z.2 i) := by
  refine ⟨up_s _ _ _ _, fun i hi => ?_⟩
  have hi : i < z.1 + 1 := hi
  show up (up c 48 z.1 (nI ch)) 40 2 (nI (z.1 + 1)) 48 i = nI (if i = z.1 then ch else z.2 i)
  rw [up_at, if_neg (by omega), up_at]
  by_cases e : i = z.1
  · rw [if_pos ⟨rfl, e⟩, if_pos e]
  · rw [if_neg (fun q => e q.2), if_neg e]
    exact h.2 i (by omega)
theorem wM_1 {q : Ln} (h : 1 ≤ npK q.1) : wM q 1 = nI q.2.1 := if_neg (by omega)
theorem wM_2 {q : Ln} (h : 2 ≤ npK q.1) : wM q 2 = nI q.2.2.1 := if_neg (by omega)
theorem wM_3 {q : Ln} (h : 3 ≤ npK q.1) : wM q 3 = nI q.2.2.2 := if_neg (by omega)
theorem np1 : ∀ k, k < 7 → 1 ≤ npK k := by decide
