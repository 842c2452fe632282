def shN (x : Int64) : Nat → Int64
  | 0 => x
  | n + 1 => shN x n >>> (Int32.toInt64 (nI 8) &&& 63)
theorem sh_pos : ∀ k, k < 7 → ∀ n, n < lnW k → ¬ shN (wordsF k) n ≤ lN 0 := by decide +kernel
theorem sh_end : ∀ k, k < 7 → shN (wordsF k) (lnW k) ≤ lN 0 := by decide +kernel
theorem ch_word : ∀ k, k < 7 → ∀ n, n < lnW k → (wordsF k >>> (Int32.toInt64 (nI (8 * (lnW k - 1 - n))) &&& 63)) &&& lN 255 = lN (chW k n) := by decide +kernel
theorem lNeq {a b : Nat} (ha : a < 2 ^ 31) (hb : b < 2 ^ 31) : lN a = lN b ↔ a = b := by
  refine ⟨fun h => ?_, fun h => by rw [h]⟩
  have h1 := lNT ha
  have h2 := lNT hb
  rw [h, h2] at h1
  omega
/-- the text of the model, with the spot a -/
def TxS (c : CF) (z : Tx) (a : Nat) : Prop := TxM c z ∧ z.1 ≤ 80 ∧ (∀ i, i < z.1 → z.2 i < 65536) ∧ c 40 3 = nI a ∧ a ≤ z.1
theorem TxS.up3 {c : CF} {z : Tx} {a b : Nat} (h : TxS c z a) (hb : b ≤ z.1) : TxS (up c 40 3 (nI b)) z b := ⟨h.1.keep (by rw [up_at, if_neg (by omega)]) (fun i => by rw [up_at, if_neg (by omega)]), h.2.1, h.2.2.1, up_s _ _ _ _, hb⟩
theorem TxS.keep {c c' : CF} {z : Tx} {a : Nat} (h : TxS c z a) (h1 : c' 40 2 = c 40 2) (h2 : ∀ i, c' 48 i = c 48 i) (h3 : c' 40 3 = c 40 3) : TxS c' z a := ⟨h.1.keep h1 h2, h.2.1, h.2.2.1, h3.trans h.2.2.2.1, h.2.2.2.2⟩
def wMx (z : Tx) (a : Nat) : Nat → Nat
  | 0 => 0
  | k + 1 => if wMx z a k < mt z a k then mt z a k else wMx z a k
def wWd (z : Tx) (a : Nat) : Nat → Int32
  | 0 => NON
  | k + 1 => if mt z a k = lnW k then nI k else wWd z a k
theorem mt_le (z : Tx) (a k : Nat) : mt z a k ≤ lnW k := by
  have := (mtc_le z a k (lnW k) 0).2
  unfold mt
  omega
theorem wMx_in {z : Tx} {a : Nat} (ha : a ≤ z.1) : ∀ n, a + wMx z a n ≤ z.1
  | 0 => ha
  | n + 1 => by
    have h1 := wMx_in ha n
    have h2 := mtc_in z a n (lnW n) 0 (by omega)
    have h3 : a + mt z a n ≤ z.1 := h2
    unfold wMx
    split <;> omega
theorem wMx_le {z : Tx} {a : Nat} : ∀ n, n ≤ 7 → wMx z a n ≤ 6
  | 0, _ => Nat.zero_le _
  | n + 1, h => by
    have h1 := wMx_le (z := z) (a := a) n (by omega)
    have h2 := mt_le z a n
    have h3 := (lnW_pos n (by omega)).2
    unfold wMx
    split <;> omega
theorem mt_0 {z : Tx} {a k : Nat} (hk : k < 7) (h : ¬ (a < z.1 ∧ z.2 a = chW k 0)) : mt z a k = 0 := by
  have := lnW_pos k hk
  have h2 := mtc_stop (z := z) (p := a) (k := k) (i := 0) (by omega) h
  exact h2
theorem kdF_no {z : Tx} {a : Nat} : ∀ fu j, kdF z a j fu = none → ∀ k, j ≤ k → k < j + fu → ¬ (a < z.1 ∧ z.2 a = chW k 0)
  | 0, j, _, k, h1, h2 => by omega
  | fu + 1, j, h, k, h1, h2 => by
    unfold kdF at h
    split at h
    · cases h
    · rename_i hc
      by_cases e : k = j
      · rw [e]
        exact hc
      · exact kdF_no fu (j + 1) h k (by omega) (by omega)
theorem kdF_yes {z : Tx} {a k : Nat} : ∀ fu j, kdF z a j fu = some k → a < z.1 ∧ z.2 a = chW k 0
  | 0, j, h => by cases h
  | fu + 1, j, h => by
    unfold kdF at h
    split at h
    · rename_i hc
      cases h
      exact hc
    · exact kdF_yes fu (j + 1) h
theorem ch0_ne : ∀ k, k < 7 → ∀ j, j < 7 → k ≠ j → chW k 0 ≠ chW j 0 := by decide
theorem words_none {z : Tx} {a : Nat} (h : kd z a = none) : ∀ n, n ≤ 7 → wMx z a n = 0 ∧ wWd z a n = NON
  | 0, _ => ⟨rfl, rfl⟩
  | n + 1, hn => by
    have h1 := words_none h n (by omega)
    have h2 := mt_0 (z := z) (a := a) (k := n) (by omega) (kdF_no 7 0 h n (by omega) (by omega))
    have h3 := lnW_pos n (by omega)
    unfold wMx wWd
    rw [h2, h1.1, h1.2, if_neg (by omega), if_neg (by omega)]
    exact ⟨rfl, rfl⟩
theorem words_some {z : Tx} {a k : Nat} (h : kd z a = some k) : ∀ n, n ≤ 7 → wMx z a n = (if k < n then mt z a k else 0) ∧ wWd z a n = (if k < n ∧ mt z a k = lnW k then nI k else NON)
  | 0, _ => ⟨rfl, by rw [if_neg (by omega)]; rfl⟩
  | n + 1, hn => by
    have h1 := words_some h n (by omega)
    have h3 := lnW_pos n (by omega)
    have hk := kd_lt h
    have hc := kdF_yes 7 0 h
    show (if wMx z a n < mt z a n then mt z a n else wMx z a n) = _ ∧ (if mt z a n = lnW n then nI n else wWd z a n) = _
    by_cases e : n = k
    · subst e
      have a1 : wMx z a n = 0 := by rw [h1.1, if_neg (by omega)]
      have a2 : wWd z a n = NON := by rw [h1.2, if_neg (by omega)]
      rw [a1, a2, if_pos (show n < n + 1 by omega)]
      refine ⟨?_, ?_⟩
      · by_cases q : 0 < mt z a n
        · rw [if_pos q]
        · rw [if_neg q]
          omega
      · by_cases q : mt z a n = lnW n
        · rw [if_pos q, if_pos ⟨by omega, q⟩]
        · rw [if_neg q, if_neg (fun w => q w.2)]
    · have h2 := mt_0 (z := z) (a := a) (k := n) (by omega) (fun q => ch0_ne k hk n (by omega) (fun w => e w.symm) (hc.2.symm.trans q.2))
      have a1 : (if wMx z a n < mt z a n then mt z a n else wMx z a n) = wMx z a n := if_neg (by omega)
      have a2 : (if mt z a n = lnW n then nI n else wWd z a n) = wWd z a n := if_neg (by omega)
      rw [a1, a2, h1.1, h1.2]
      refine ⟨?_, ?_⟩
      · by_cases q : k < n
        · rw [if_pos q, if_pos (by omega)]
        · rw [if_neg q, if_neg (by omega)]
      · by_cases q : k < n ∧ mt z a k = lnW k
        · rw [if_pos q, if_pos ⟨by omega, q.2⟩]
        · rw [if_neg q, if_neg (fun w => q ⟨by omega, w.2⟩)]
/-- the number part -/
def loM (k w : Nat) : Nat := if (k = 6 ∧ w = 2) ∨ (k = 0 ∧ w = 2) then 1 else 0
def hiM (k w : Nat) : Nat := if k = 6 ∧ w = 2 then 60 else if k = 0 ∧ w = 2 then 255 else if k = 0 then 256 else 15
theorem lo_hiM : ∀ k, k < 7 → ∀ w, w < 4 → 1 ≤ w → w ≤ npK k → loM k w = loK k w ∧ hiM k w = hiK k w := by decide
theorem NON_ne {k : Nat} (h : k < 7) : ¬ nI k = NON := by
  intro q
  have h1 := nT (n := k) (by omega)
  rw [q] at h1
  have h2 : (NON : Int32).toInt = -100000005 := rfl
  omega
/-- what a reading of the model leaves: only the spot, the number, the reads are others -/
def RdO (c0 c : CF) : Prop := ∀ q i, q ≠ 49 → ¬ (q = 40 ∧ (i = 3 ∨ i = 4 ∨ i = 5)) → c q i = c0 q i
theorem RdO.rf (c : CF) : RdO c c := fun _ _ _ _ => rfl
theorem RdO.tr {a b c : CF} (h : RdO a b) (h2 : RdO b c) : RdO a c := fun q i h3 h4 => (h2 q i h3 h4).trans (h q i h3 h4)
theorem RdO.up {c0 c : CF} (h : RdO c0 c) {r i : Nat} {v : Int32} (hr : r = 49 ∨ (r = 40 ∧ (i = 3 ∨ i = 4 ∨ i = 5))) : RdO c0 (up c r i v) := by
  intro q j h1 h2
  rw [up_at, if_neg (by omega)]
  exact h q j h1 h2
theorem RdO.scr {c0 c : CF} (h : RdO c0 c) : ScrM c0 c := fun q i h1 h2 h3 h4 h5 h6 h7 h8 => h q i h5 h8
theorem RdO.tx {c0 c : CF} {z : Tx} {a b : Nat} (h : RdO c0 c) (hT : TxS c0 z a) (hb : c 40 3 = nI b) (hbz : b ≤ z.1) : TxS c z b := ⟨hT.1.keep (h _ _ (by omega) (by omega)) (fun i => h _ _ (by omega) (by omega)), hT.2.1, hT.2.2.1, hb, hbz⟩
/-- a number is read, or not -/
def NumP (z : Tx) (lo mo a : Nat) (c0 : CF) (r : Int32) (c : CF) : Prop :=
  (∀ q i, ¬ (q = 40 ∧ (i = 3 ∨ i = 5)) → c q i = c0 q i) ∧ c 40 3 = nI (bn z lo mo a).2 ∧ (((bn z lo mo a).1 = none ∧ r = 0) ∨ ∃ v, (bn z lo mo a).1 = some v ∧ r = 1 ∧ c 40 5 = nI v)
