def kdI (o : Option Nat) : Int32 := match o with | none => -1 | some k => nI k
def digI (z : Tx) (a : Nat) : Int32 := if a < z.1 ∧ 48 ≤ z.2 a ∧ z.2 a ≤ 57 then nI (z.2 a - 48) else -1
theorem m1_ge {n : Nat} (h : n < 2 ^ 31) : ¬ nI n ≤ (-1 : Int32) := by
  rw [ile, nT h]
  have e : (-1 : Int32).toInt = -1 := rfl
  omega
theorem m1_ne {n : Nat} (h : n < 2 ^ 31) : ¬ nI n = (-1 : Int32) := by
  intro q
  have e : (-1 : Int32).toInt = -1 := rfl
  rw [← q, nT h] at e
  omega
theorem kdF_hit {z : Tx} {a k : Nat} (hk : k < 7) (h : a < z.1 ∧ z.2 a = chW k 0) : kdF z a k (7 - k) = some k := by
  obtain ⟨d, hd⟩ : ∃ d, 7 - k = d + 1 := ⟨6 - k, by omega⟩
  rw [hd]
  exact if_pos h
theorem kdF_miss {z : Tx} {a k : Nat} (hk : k < 7) (h : ¬ (a < z.1 ∧ z.2 a = chW k 0)) : kdF z a k (7 - k) = kdF z a (k + 1) (7 - (k + 1)) := by
  obtain ⟨d, hd⟩ : ∃ d, 7 - k = d + 1 := ⟨6 - k, by omega⟩
  rw [hd, show 7 - (k + 1) = d from by omega]
  exact if_neg h
theorem kdF_lt {z : Tx} {a k : Nat} : ∀ fu j, kdF z a j fu = some k → k < j + fu
  | 0, j, h => by cases h
  | fu + 1, j, h => by
    unfold kdF at h
    split at h
    · cases h
      omega
    · have := kdF_lt fu (j + 1) h
      omega
theorem kd_lt {z : Tx} {a k : Nat} (h : kd z a = some k) : k < 7 := by
  have := kdF_lt 7 0 h
  omega
theorem tbl_np : ∀ k, k < 7 → tblF 0 k = nI (npK k) := by decide
theorem tbl_nl : ∀ k, k < 7 → tblF 1 k = nI (nlK k) := by decide
theorem npK_le : ∀ k, k < 7 → npK k ≤ 3 ∧ nlK k ≤ 3 ∧ 5 ≤ lnW k + 2 * npK k := by decide
theorem dl_step {z : Tx} {most v q : Nat} (h : 0 < v ∧ q < z.1 ∧ 48 ≤ z.2 q ∧ z.2 q ≤ 57 ∧ v * 10 + (z.2 q - 48) ≤ most) : dl z most (z.1 - q) v q = dl z most (z.1 - (q + 1)) (v * 10 + (z.2 q - 48)) (q + 1) := by
  obtain ⟨d, hd⟩ : ∃ d, z.1 - q = d + 1 := ⟨z.1 - q - 1, by omega⟩
  rw [hd, show z.1 - (q + 1) = d from by omega]
  exact if_pos h
theorem dl_stop {z : Tx} {most v q : Nat} (n : Nat) (h : ¬ (0 < v ∧ q < z.1 ∧ 48 ≤ z.2 q ∧ z.2 q ≤ 57 ∧ v * 10 + (z.2 q - 48) ≤ most)) : dl z most n v q = (v, q) := by
  cases n with
  | zero => rfl
  | succ n => exact if_neg h
theorem dg_cases {z : Tx} {lo mo a : Nat} (ha : a ≤ z.1) (h9 : 9 ≤ mo) : ((dg z lo mo a).1 = none ∧ (dg z lo mo a).2 = a) ∨ ∃ v, (dg z lo mo a).1 = some v ∧ v ≤ mo ∧ lo ≤ v ∧ a < (dg z lo mo a).2 ∧ (dg z lo mo a).2 ≤ z.1 := by
  unfold dg
  split
  · rename_i h
    refine Or.inr ⟨_, rfl, ?_⟩
    have := dl_le z mo (z.1 - (a + 1)) (z.2 a - 48) (a + 1) (by omega) (by omega)
    refine ⟨this.1, ?_, by show a < _; omega, by exact this.2.2.1⟩
    have h2 := this.2.2.2
    have h3 := h.2.1
    omega
  · exact Or.inl ⟨rfl, rfl⟩
/-- all but the spare bench's lines and the place is as it was -/
def OthT (c0 c : CF) : Prop := ∀ q i, q ≠ 22 → q ≠ 32 → ¬ (q = 2 ∧ i = 2) → ¬ (q = 0 ∧ i = 4) → c q i = c0 q i
theorem OthT.rf (c : CF) : OthT c c := fun _ _ _ _ _ _ => rfl
theorem OthT.tr {a b c : CF} (h : OthT a b) (h2 : OthT b c) : OthT a c := fun q i h3 h4 h5 h6 => (h2 q i h3 h4 h5 h6).trans (h q i h3 h4 h5 h6)
theorem OthT.up {c0 c : CF} (h : OthT c0 c) {r i : Nat} {v : Int32} (hr : r = 22 ∨ r = 32 ∨ (r = 2 ∧ i = 2) ∨ (r = 0 ∧ i = 4)) : OthT c0 (up c r i v) := by
  intro q j h1 h2 h3 h4
  rw [up_at, if_neg (by omega)]
  exact h q j h1 h2 h3 h4
theorem OthT.tx {c0 c : CF} {z : Tx} (h : OthT c0 c) (hT : TxC c0 z) : TxC c z :=
  ⟨(h 0 3 (by omega) (by omega) (by omega) (by omega)).trans hT.1, hT.2.1, fun i hi => ⟨(h 6 i (by omega) (by omega) (by omega) (by omega)).trans (hT.2.2 i hi).1, (hT.2.2 i hi).2⟩⟩
theorem OthT.add {c0 c : CF} (h : OthT c0 c) {m : Nat} {k f s t : Int32} : OthT c0 (addC 2 m k f s t c) := fun q i h1 h2 h3 h4 => (addC_oth 2 m k f s t c q i h1 h2 h3).trans (h q i h1 h2 h3 h4)
theorem RepL.place {c : CF} {m : Nat} {f : Nat → Ln} (h : RepL 2 c m f) (v : Int32) : RepL 2 (up c 0 4 v) m f :=
  h.keep (by rw [up_at, if_neg (by omega)]) (fun i => by rw [up_at, if_neg (by omega)]) (fun i => by rw [up_at, if_neg (by omega)])
theorem RepL.line {c : CF} {m k : Nat} {f : Nat → Ln} (h : RepL 2 c m f) : RepL 2 (addC 2 m (nI k) (nI 0) (nI 0) (nI 0) c) (m + 1) (fun j => if j = m then (k, 0, 0, 0) else f j) := by
  refine ⟨addC_s _ _ _ _ _ _ _, fun j hj => ?_⟩
  show LnAt 2 _ j (if j = m then (k, 0, 0, 0) else f j)
  unfold LnAt
  rw [addC_k 2 m (by decide), addC_n 2 m (by decide), addC_n 2 m (by decide), addC_n 2 m (by decide)]
  by_cases e : j = m
  · subst e
    rw [if_pos rfl, if_pos rfl, if_neg (by omega), if_neg (by omega), if_pos rfl, if_neg (by omega), if_pos rfl, if_pos rfl]
    exact ⟨rfl, rfl, rfl, rfl⟩
  · rw [if_neg e, if_neg e, if_neg (by omega), if_neg (by omega), if_neg (by omega), if_neg (by omega), if_neg (by omega), if_neg (by omega), if_neg (by omega), if_neg (by omega), if_neg (by omega)]
    exact h.2 j (by omega)
theorem RepL.num {c : CF} {m w v : Nat} {q : Ln} {f : Nat → Ln} (h : RepL 2 c (m + 1) (fun j => if j = m then q else f j)) (hw : w < 3) : RepL 2 (up c (30 + 2) (3 * m + w) (nI v)) (m + 1) (fun j => if j = m then setN q (w + 1) v else f j) := by
  obtain ⟨h1, h2⟩ := h
  refine ⟨by rw [up_at, if_neg (by omega)]; exact h1, fun j hj => ?_⟩
  have h3 : LnAt 2 c j (if j = m then q else f j) := h2 j hj
  show LnAt 2 _ j (if j = m then setN q (w + 1) v else f j)
  unfold LnAt at h3 ⊢
  rw [up_at, if_neg (by omega), up_at, up_at, up_at]
  by_cases e : j = m
  · subst e
    rw [if_pos rfl] at h3 ⊢
    rcases (show w = 0 ∨ w = 1 ∨ w = 2 by omega) with rfl | rfl | rfl
    · rw [if_pos ⟨rfl, rfl⟩, if_neg (by omega), if_neg (by omega)]
      exact ⟨h3.1, rfl, h3.2.2.1, h3.2.2.2⟩
    · rw [if_neg (by omega), if_pos ⟨rfl, rfl⟩, if_neg (by omega)]
      exact ⟨h3.1, h3.2.1, rfl, h3.2.2.2⟩
    · rw [if_neg (by omega), if_neg (by omega), if_pos ⟨rfl, rfl⟩]
      exact ⟨h3.1, h3.2.1, h3.2.2.1, rfl⟩
  · rw [if_neg e] at h3 ⊢
    rw [if_neg (by omega), if_neg (by omega), if_neg (by omega)]
    exact h3
theorem nums_end {z : Tx} {k w p : Nat} {q : Ln} (fu : Nat) (h : npK k < w) : nums z k fu w p q = (some q, p) := by
  cases fu with
  | zero => rfl
  | succ fu => exact if_pos h
theorem nums_step {z : Tx} {k w p : Nat} {q : Ln} {v p2 : Nat} (h : w + 1 ≤ npK k) (hk : npK k ≤ 3) (hb : bn z (loK k (w + 1)) (hiK k (w + 1)) p = (some v, p2)) : nums z k (4 - w) (w + 1) p q = nums z k (4 - (w + 1)) (w + 1 + 1) p2 (setN q (w + 1) v) := by
  obtain ⟨d, hd⟩ : ∃ d, 4 - w = d + 1 := ⟨3 - w, by omega⟩
  rw [hd, show 4 - (w + 1) = d from by omega]
  show (if npK k < w + 1 then _ else _) = _
  rw [if_neg (by omega), hb]
theorem nums_fail {z : Tx} {k w p : Nat} {q : Ln} {p2 : Nat} (h : w + 1 ≤ npK k) (hk : npK k ≤ 3) (hb : bn z (loK k (w + 1)) (hiK k (w + 1)) p = (none, p2)) : nums z k (4 - w) (w + 1) p q = (none, p2) := by
  obtain ⟨d, hd⟩ : ∃ d, 4 - w = d + 1 := ⟨3 - w, by omega⟩
  rw [hd]
  show (if npK k < w + 1 then _ else _) = _
  rw [if_neg (by omega), hb]
theorem loK_hi (k w : Nat) : loK k w ≤ 1 ∧ 9 ≤ hiK k w ∧ hiK k w ≤ 256 := by
  unfold loK hiK
  refine ⟨?_, ?_, ?_⟩ <;> (repeat' split) <;> omega
def LineP (z : Tx) (a m : Nat) (f : Nat → Ln) (c0 : CF) (r : Int32) (c : CF) : Prop :=
  OthT c0 c ∧ c 0 4 = nI (lin z a).2 ∧ ((lin z a).1 = none ∧ r = 0 ∨ ∃ q, (lin z a).1 = some q ∧ r = 1 ∧ RepL 2 c (m + 1) (fun j => if j = m then q else f j))
theorem bn_cases {z : Tx} {lo mo a : Nat} (ha : a ≤ z.1) (h9 : 9 ≤ mo) : ((bn z lo mo a).1 = none ∧ a ≤ (bn z lo mo a).2 ∧ (bn z lo mo a).2 ≤ z.1) ∨ ∃ v, (bn z lo mo a).1 = some v ∧ v ≤ mo ∧ lo ≤ v ∧ a + 2 ≤ (bn z lo mo a).2 ∧ (bn z lo mo a).2 ≤ z.1 := by
  unfold bn
  split
  · rename_i h
    rcases dg_cases (lo := lo) (mo := mo) (show a + 1 ≤ z.1 by omega) h9 with ⟨h1, h2⟩ | ⟨v, h1, h2, h3, h4, h5⟩
    · exact Or.inl ⟨h1, by omega, by omega⟩
    · exact Or.inr ⟨v, h1, h2, h3, by omega, h5⟩
  · exact Or.inl ⟨rfl, Nat.le_refl _, ha⟩
theorem nums_len {z : Tx} {k : Nat} : ∀ fu w p q, p ≤ z.1 → npK k + 1 ≤ w + fu → (nums z k fu w p q).2 ≤ z.1 ∧ ((nums z k fu w p q).1.isSome = true → p + 2 * (npK k + 1 - w) ≤ (nums z k fu w p q).2)
  | 0, w, p, q, hp, hw => ⟨hp, fun _ => by show p + 2 * (npK k + 1 - w) ≤ p; omega⟩
  | fu + 1, w, p, q, hp, hw => by
    unfold nums
    split
    · rename_i h
      exact ⟨hp, fun _ => by show p + 2 * (npK k + 1 - w) ≤ p; omega⟩
    · rename_i h
      rcases bn_cases (lo := loK k w) (mo := hiK k w) hp (loK_hi k w).2.1 with ⟨h1, h2, h3⟩ | ⟨v, h1, h2, h3, h4, h5⟩
      · rw [show bn z (loK k w) (hiK k w) p = (none, (bn z (loK k w) (hiK k w) p).2) from Prod.ext h1 rfl]
        exact ⟨h3, fun q => by cases q⟩
      · rw [show bn z (loK k w) (hiK k w) p = (some v, (bn z (loK k w) (hiK k w) p).2) from Prod.ext h1 rfl]
        have := nums_len (z := z) (k := k) fu (w + 1) (bn z (loK k w) (hiK k w) p).2 (setN q w v) h5 (by omega)
        refine ⟨this.1, fun e => ?_⟩
        have h6 := this.2 e
        show p + 2 * (npK k + 1 - w) ≤ (nums z k fu (w + 1) (bn z (loK k w) (hiK k w) p).2 (setN q w v)).2
        omega
theorem lin_len {z : Tx} {a : Nat} (ha : a ≤ z.1) : (lin z a).2 ≤ z.1 ∧ ((lin z a).1.isSome = true → a + 5 ≤ (lin z a).2) := by
  unfold lin
  split
  · exact ⟨ha, fun q => by cases q⟩
  · rename_i k hk
    have hk7 := kd_lt hk
    have h1 := mtc_in z a k (lnW k) 0 (by omega)
    split
    · rename_i hm
      have := nums_len (z := z) (k := k) 4 1 (a + mt z a k) (k, 0, 0, 0) h1 (by have := npK_le k hk7; omega)
      refine ⟨this.1, fun e => ?_⟩
      have h6 := this.2 e
      have h7 := npK_le k hk7
      omega
    · exact ⟨h1, fun q => by cases q⟩
theorem allL_fault {z : Tx} {n p m : Nat} {f : Nat → Ln} (h : (lin z p).1 = none) : allL z (n + 1) p m f = (some (lin z p).2, m, f) := by
  show (match lin z p with | (none, p') => _ | (some q, p') => _) = _
  rw [show lin z p = (none, (lin z p).2) from Prod.ext h rfl]
theorem allL_end {z : Tx} {n p m : Nat} {f : Nat → Ln} {q : Ln} (h : (lin z p).1 = some q) (h2 : (lin z p).2 = z.1) : allL z (n + 1) p m f = (none, m + 1, fun j => if j = m then q else f j) := by
  show (match lin z p with | (none, p') => _ | (some q, p') => _) = _
  rw [show lin z p = (some q, (lin z p).2) from Prod.ext h rfl]
  exact if_pos h2
theorem allL_next {z : Tx} {n p m : Nat} {f : Nat → Ln} {q : Ln} (h : (lin z p).1 = some q) (h2 : (lin z p).2 ≠ z.1) (h3 : (lin z p).2 < z.1 ∧ z.2 (lin z p).2 = 59) : allL z (n + 1) p m f = allL z n ((lin z p).2 + 1) (m + 1) (fun j => if j = m then q else f j) := by
  show (match lin z p with | (none, p') => _ | (some q, p') => _) = _
  rw [show lin z p = (some q, (lin z p).2) from Prod.ext h rfl]
  exact (if_neg h2).trans (if_pos h3)
theorem allL_stop {z : Tx} {n p m : Nat} {f : Nat → Ln} {q : Ln} (h : (lin z p).1 = some q) (h2 : (lin z p).2 ≠ z.1) (h3 : ¬ ((lin z p).2 < z.1 ∧ z.2 (lin z p).2 = 59)) : allL z (n + 1) p m f = (some (lin z p).2, m + 1, fun j => if j = m then q else f j) := by
  show (match lin z p with | (none, p') => _ | (some q, p') => _) = _
  rw [show lin z p = (some q, (lin z p).2) from Prod.ext h rfl]
  exact (if_neg h2).trans (if_neg h3)
