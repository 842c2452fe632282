/-! the text: words, numbers, lines, all of it -/
def chL : List (List Nat) := [[115, 111, 117, 114, 99, 101], [97, 110, 100], [111, 114], [120, 111, 114], [109, 117, 120], [110, 111, 116], [100, 101, 108, 97, 121]]
def chW (k j : Nat) : Nat := (chL.getD k []).getD j 0
def lenW : List Nat := [6, 3, 2, 3, 3, 3, 5]
def lnW (k : Nat) : Nat := lenW.getD k 0
abbrev Tx : Type := Nat × (Nat → Nat)
/-- character c stands at p -/
def isC (z : Tx) (p c : Nat) : Prop := p < z.1 ∧ z.2 p = c
/-- how much of word k stands at p, from its place i on -/
def mtc (z : Tx) (p k : Nat) : Nat → Nat → Nat
  | i, 0 => i
  | i, fu + 1 => if p + i < z.1 ∧ z.2 (p + i) = chW k i then mtc z p k (i + 1) fu else i
def mt (z : Tx) (p k : Nat) : Nat := mtc z p k 0 (lnW k)
/-- the kind whose word begins with the character at p, from kind k on -/
def kdF (z : Tx) (p : Nat) : Nat → Nat → Option Nat
  | _, 0 => none
  | k, fu + 1 => if p < z.1 ∧ z.2 p = chW k 0 then some k else kdF z p (k + 1) fu
def kd (z : Tx) (p : Nat) : Option Nat := kdF z p 0 7
/-- digits behind a number, while they are allowed -/
def dl (z : Tx) (most : Nat) : Nat → Nat → Nat → Nat × Nat
  | 0, v, q => (v, q)
  | fu + 1, v, q => if 0 < v ∧ q < z.1 ∧ 48 ≤ z.2 q ∧ z.2 q ≤ 57 ∧ v * 10 + (z.2 q - 48) ≤ most then dl z most fu (v * 10 + (z.2 q - 48)) (q + 1) else (v, q)
/-- a number at p -/
def dg (z : Tx) (least most p : Nat) : Option Nat × Nat :=
  if p < z.1 ∧ 48 + least ≤ z.2 p ∧ z.2 p ≤ 57 then (some (dl z most (z.1 - (p + 1)) (z.2 p - 48) (p + 1)).1, (dl z most (z.1 - (p + 1)) (z.2 p - 48) (p + 1)).2) else (none, p)
/-- a blank and a number -/
def bn (z : Tx) (least most p : Nat) : Option Nat × Nat := if p < z.1 ∧ z.2 p = 32 then dg z least most (p + 1) else (none, p)
def npK (k : Nat) : Nat := ([2, 2, 2, 2, 3, 1, 2] : List Nat).getD k 0
def nlK (k : Nat) : Nat := ([0, 2, 2, 2, 3, 1, 1] : List Nat).getD k 0
def loK (k w : Nat) : Nat := if w = 2 ∧ (k = 0 ∨ k = 6) then 1 else 0
def hiK (k w : Nat) : Nat := if w ≤ nlK k then 15 else if k = 6 then 60 else if w = 1 then 256 else 255
def setN (q : Ln) (w v : Nat) : Ln := if w = 1 then (q.1, v, q.2.2.1, q.2.2.2) else if w = 2 then (q.1, q.2.1, v, q.2.2.2) else (q.1, q.2.1, q.2.2.1, v)
/-- the numbers of a line, from the w-th on -/
def nums (z : Tx) (k : Nat) : Nat → Nat → Nat → Ln → Option Ln × Nat
  | 0, _, p, q => (some q, p)
  | fu + 1, w, p, q => if npK k < w then (some q, p) else
      match bn z (loK k w) (hiK k w) p with
      | (none, p') => (none, p')
      | (some v, p') => nums z k fu (w + 1) p' (setN q w v)
/-- a line at p -/
def lin (z : Tx) (p : Nat) : Option Ln × Nat :=
  match kd z p with
  | none => (none, p)
  | some k => if mt z p k = lnW k then nums z k 4 1 (p + mt z p k) (k, 0, 0, 0) else (none, p + mt z p k)
/-- all lines, from p on, m of them read: the fault, how many, which -/
def allL (z : Tx) : Nat → Nat → Nat → (Nat → Ln) → Option Nat × Nat × (Nat → Ln)
  | 0, p, m, f => (some p, m, f)
  | fu + 1, p, m, f =>
      match lin z p with
      | (none, p') => (some p', m, f)
      | (some q, p') => if p' = z.1 then (none, m + 1, fun j => if j = m then q else f j)
          else if p' < z.1 ∧ z.2 p' = 59 then allL z fu (p' + 1) (m + 1) (fun j => if j = m then q else f j)
          else (some p', m + 1, fun j => if j = m then q else f j)
def rdT (z : Tx) : Option Nat × Nat × (Nat → Ln) := allL z 81 0 0 (fun _ => (0, 0, 0, 0))
theorem mtc_le (z : Tx) (p k : Nat) : ∀ fu i, i ≤ mtc z p k i fu ∧ mtc z p k i fu ≤ i + fu
  | 0, i => ⟨Nat.le_refl _, Nat.le_refl _⟩
  | fu + 1, i => by
    unfold mtc
    split
    · have := mtc_le z p k fu (i + 1)
      omega
    · omega
theorem mtc_in (z : Tx) (p k : Nat) : ∀ fu i, p + i ≤ z.1 → p + mtc z p k i fu ≤ z.1
  | 0, i, h => h
  | fu + 1, i, h => by
    unfold mtc
    split
    · exact mtc_in z p k fu (i + 1) (by omega)
    · exact h
theorem dl_le (z : Tx) (most : Nat) : ∀ fu v q, v ≤ most → q ≤ z.1 → (dl z most fu v q).1 ≤ most ∧ q ≤ (dl z most fu v q).2 ∧ (dl z most fu v q).2 ≤ z.1 ∧ v ≤ (dl z most fu v q).1
  | 0, v, q, h, h2 => ⟨h, Nat.le_refl _, h2, Nat.le_refl _⟩
  | fu + 1, v, q, h, h2 => by
    unfold dl
    split
    · rename_i hc
      have := dl_le z most fu (v * 10 + (z.2 q - 48)) (q + 1) hc.2.2.2.2 (by omega)
      omega
    · exact ⟨h, Nat.le_refl _, h2, Nat.le_refl _⟩
theorem up_up (c : CF) (r i : Nat) (v w : Int32) : up (up c r i v) r i w = up c r i w := by
  funext q j
  rw [up_at, up_at, up_at]
  split <;> rfl
theorem up_self (c : CF) (r i : Nat) (v : Int32) (h : c r i = v) : up c r i v = c := by
  funext q j
  rw [up_at]
  split
  · rename_i hc
    rw [hc.1, hc.2, h]
  · rfl
theorem chW_lt : ∀ k, k < 7 → ∀ j, j < lnW k → chW k j < 128 := by decide
theorem lnW_pos : ∀ k, k < 7 → 2 ≤ lnW k ∧ lnW k ≤ 6 := by decide
theorem nar_ch {n : Nat} (h : n < 65536) : narrow .char (.int (nI n)) = .int (nI n) ∧ vp_nar .char (nI n) = nI n := by
  have h1 := (pk_charN h).1
  refine ⟨h1, ?_⟩
  unfold vp_nar
  rw [h1]
/-- what a bench holds of the text -/
def TxC (c : CF) (z : Tx) : Prop := c 0 3 = nI z.1 ∧ z.1 ≤ 80 ∧ ∀ i, i < z.1 → c 6 i = nI (z.2 i) ∧ z.2 i < 65536
theorem TxC.up {c : CF} {z : Tx} {r i : Nat} {v : Int32} (h : TxC c z) (h1 : ¬ (r = 0 ∧ i = 3)) (h2 : r ≠ 6) : TxC (up c r i v) z := by
  refine ⟨?_, h.2.1, fun j hj => ?_⟩
  · rw [up_at, if_neg (by omega)]
    exact h.1
  · rw [up_at, if_neg (by omega)]
    exact h.2.2 j hj
theorem mtc_step {z : Tx} {p k i : Nat} (hi : i < lnW k) (h : p + i < z.1 ∧ z.2 (p + i) = chW k i) : mtc z p k i (lnW k - i) = mtc z p k (i + 1) (lnW k - (i + 1)) := by
  obtain ⟨d, hd⟩ : ∃ d, lnW k - i = d + 1 := ⟨lnW k - i - 1, by omega⟩
  rw [hd, show lnW k - (i + 1) = d from by omega]
  exact if_pos h
theorem mtc_stop {z : Tx} {p k i : Nat} (hi : i < lnW k) (h : ¬ (p + i < z.1 ∧ z.2 (p + i) = chW k i)) : mtc z p k i (lnW k - i) = i := by
  obtain ⟨d, hd⟩ : ∃ d, lnW k - i = d + 1 := ⟨lnW k - i - 1, by omega⟩
  rw [hd]
  exact if_neg h
