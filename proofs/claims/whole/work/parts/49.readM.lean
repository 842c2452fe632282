def PartP (z : Tx) (k w mm a : Nat) (c0 : CF) (r : Int32) (c : CF) : Prop :=
  RdO c0 c ∧ c 40 3 = nI (bn z (loK k w) (hiK k w) a).2 ∧ c 40 4 = c0 40 4 ∧ (∀ i, i ≠ 4 * mm + w → c 49 i = c0 49 i) ∧ (((bn z (loK k w) (hiK k w) a).1 = none ∧ r = 0) ∨ ∃ v, (bn z (loK k w) (hiK k w) a).1 = some v ∧ r = 1 ∧ c 49 (4 * mm + w) = nI v)
theorem NumP.part0 {z : Tx} {k w mm a : Nat} {c0 c c1 : CF} {r x : Int32} (h : NumP z (loK k w) (hiK k w) a c0 r c) (hn : (bn z (loK k w) (hiK k w) a).1 = none) (e : c1 = up c 49 (4 * mm + w) x) : PartP z k w mm a c0 0 c1 := by
  subst e
  refine ⟨fun q i h1 h2 => ?_, ?_, ?_, fun i hi => ?_, Or.inl ⟨hn, rfl⟩⟩
  · rw [up_at, if_neg (by omega)]
    exact h.1 q i (by omega)
  · rw [up_at, if_neg (by omega)]
    exact h.2.1
  · rw [up_at, if_neg (by omega)]
    exact h.1 _ _ (by omega)
  · rw [up_at, if_neg (by omega)]
    exact h.1 _ _ (by omega)
theorem NumP.part1 {z : Tx} {k w mm a v : Nat} {c0 c c1 : CF} {r : Int32} (h : NumP z (loK k w) (hiK k w) a c0 r c) (hn : (bn z (loK k w) (hiK k w) a).1 = some v) (e : c1 = up c 49 (4 * mm + w) (nI v)) : PartP z k w mm a c0 1 c1 := by
  subst e
  refine ⟨fun q i h1 h2 => ?_, ?_, ?_, fun i hi => ?_, Or.inr ⟨v, hn, rfl, up_s _ _ _ _⟩⟩
  · rw [up_at, if_neg (by omega)]
    exact h.1 q i (by omega)
  · rw [up_at, if_neg (by omega)]
    exact h.2.1
  · rw [up_at, if_neg (by omega)]
    exact h.1 _ _ (by omega)
  · rw [up_at, if_neg (by omega)]
    exact h.1 _ _ (by omega)
/-- w numbers of a line stand in the reads -/
def LnW (c : CF) (mm k w : Nat) (q : Ln) : Prop := c 49 (4 * mm) = nI k ∧ q.1 = k ∧ (∀ v, v < w → c 49 (4 * mm + (v + 1)) = nI (nthN q v)) ∧ ∀ v, w ≤ v → v < 3 → c 49 (4 * mm + (v + 1)) = NON
theorem LnW.next {c c1 : CF} {mm k w v : Nat} {q : Ln} (h : LnW c mm k w q) (hw : w < 3) (ho : ∀ i, i ≠ 4 * mm + (w + 1) → c1 49 i = c 49 i) (hv : c1 49 (4 * mm + (w + 1)) = nI v) : LnW c1 mm k (w + 1) (setN q (w + 1) v) := by
  obtain ⟨h1, h2, h3, h4⟩ := h
  refine ⟨(ho _ (by omega)).trans h1, ?_, fun t ht => ?_, fun t ht t3 => (ho _ (by omega)).trans (h4 t (by omega) t3)⟩
  · unfold setN
    split
    · exact h2
    · split <;> exact h2
  · by_cases e : t = w
    · subst e
      rw [hv]
      congr 1
      unfold setN nthN
      rcases (show t = 0 ∨ t = 1 ∨ t = 2 by omega) with rfl | rfl | rfl <;> rfl
    · rw [ho _ (by omega), h3 t (by omega)]
      congr 1
      unfold setN nthN
      rcases (show (w = 1 ∧ t = 0) ∨ (w = 2 ∧ t = 0) ∨ (w = 2 ∧ t = 1) by omega) with ⟨rfl, rfl⟩ | ⟨rfl, rfl⟩ | ⟨rfl, rfl⟩ <;> rfl
theorem LnW.done {c : CF} {mm k : Nat} {q : Ln} (h : LnW c mm k (npK k) q) (h3 : npK k ≤ 3) : LnM c 49 (4 * mm) q := by
  obtain ⟨h1, h2, h4, h5⟩ := h
  have hw : ∀ v, v < 3 → c 49 (4 * mm + (v + 1)) = wM q (v + 1) := fun v hv => by
    unfold wM
    rw [h2]
    by_cases e : npK k < v + 1
    · rw [if_pos e]
      exact h5 v (by omega) hv
    · rw [if_neg e]
      exact h4 v (by omega)
  exact ⟨by rw [h2]; exact h1, hw 0 (by decide), hw 1 (by decide), hw 2 (by decide)⟩
def LineM (z : Tx) (a mm : Nat) (c0 : CF) (r : Int32) (c : CF) : Prop :=
  RdO c0 c ∧ c 40 3 = nI (lin z a).2 ∧ (∀ i, i < 4 * mm → c 49 i = c0 49 i) ∧ (((lin z a).1 = none ∧ r = 0) ∨ ∃ q, (lin z a).1 = some q ∧ r = 1 ∧ c 40 4 = nI (mm + 1) ∧ LnM c 49 (4 * mm) q)
theorem npM : ∀ k, k < 7 → npK k = if k = 4 then 3 else if k = 5 then 1 else 2 := by decide
def ahB (g : Nat → Ln) (n k : Nat) : Nat → Nat
  | 0 => 1
  | w + 1 => if ahB g n k w = 1 ∧ nthN (g k) w < n + k then 1 else 0
theorem ahB_iff (g : Nat → Ln) (n k : Nat) : ∀ w, (ahB g n k w = 1 ↔ ∀ v, v < w → nthN (g k) v < n + k) ∧ ahB g n k w ≤ 1
  | 0 => ⟨⟨fun _ v hv => absurd hv (Nat.not_lt_zero v), fun _ => rfl⟩, Nat.le_refl _⟩
  | w + 1 => by
    have ih := ahB_iff g n k w
    unfold ahB
    by_cases h : ahB g n k w = 1 ∧ nthN (g k) w < n + k
    · rw [if_pos h]
      refine ⟨⟨fun _ v hv => ?_, fun _ => rfl⟩, Nat.le_refl _⟩
      by_cases e : v = w
      · rw [e]
        exact h.2
      · exact ih.1.mp h.1 v (by omega)
    · rw [if_neg h]
      refine ⟨⟨fun q => absurd q (by decide), fun q => absurd ⟨ih.1.mpr fun v hv => q v (by omega), q w (by omega)⟩ h⟩, Nat.zero_le _⟩
