def BitM (f : Nat → Ln) (a T : Nat) (c : CF) : Prop := ∀ s, s < T → c 45 (1000 * a + s) = nI (bN (bt f a s))
/-- all but the bits, the register and the exact shares is as it was -/
def QO (c0 c : CF) : Prop := ∀ q i, q ≠ 45 → q ≠ 46 → q ≠ 47 → c q i = c0 q i
theorem QO.rf (c : CF) : QO c c := fun _ _ _ _ _ => rfl
theorem QO.tr {a b c : CF} (h : QO a b) (h2 : QO b c) : QO a c := fun q i h3 h4 h5 => (h2 q i h3 h4 h5).trans (h q i h3 h4 h5)
theorem QO.up {c0 c : CF} (h : QO c0 c) {r i : Nat} {v : Int32} (hr : r = 45 ∨ r = 46 ∨ r = 47) : QO c0 (up c r i v) := by
  intro q j h1 h2 h3
  rw [up_at, if_neg (by omega)]
  exact h q j h1 h2 h3
theorem QO.scr {c0 c : CF} (h : QO c0 c) : ScrM c0 c := fun q i h1 h2 h3 h4 h5 h6 h7 h8 => h q i h2 h3 h4
theorem QO.row {c0 c : CF} {z : Sg} (h : QO c0 c) (hA : RowM c0 41 0 z) (hz : SgOk z) : RowM c 41 0 z := hA.keep hz.1 fun i _ _ => h _ _ (by omega) (by omega) (by omega)
/-- the bits and the register only -/
def LO (c0 c : CF) : Prop := ∀ q i, q ≠ 45 → q ≠ 46 → c q i = c0 q i
theorem LO.qo {c0 c : CF} (h : LO c0 c) : QO c0 c := fun q i h1 h2 _ => h q i h1 h2
def LayI (f : Nat → Ln) (i t T : Nat) (c0 c : CF) : Prop := BitM f i t c ∧ (∀ a, a < i → BitM f a T c) ∧ ((f i).1 = 0 → c 46 i = nI (reg (f i).2.2.1 t)) ∧ LO c0 c
theorem LayI.step {f : Nat → Ln} {i t T : Nat} {c0 c c1 c2 : CF} {v : Int32} (h : LayI f i t T c0 c) (hT : T ≤ 1000) (ht : t < T) (e1 : c1 = up c 45 (1000 * i + t) (nI (bN (bt f i t)))) (e2 : c2 = up c1 46 i v) (hv : (f i).1 = 0 → v = nI (reg (f i).2.2.1 (t + 1))) : LayI f i (t + 1) T c0 c2 := by
  subst e1 e2
  obtain ⟨h1, h2, h3, h4⟩ := h
  refine ⟨fun s hs => ?_, fun a ha s hs => ?_, fun e => ?_, fun q k a b => ?_⟩
  · rw [up_at, if_neg (by omega), up_at]
    by_cases e : s = t
    · rw [if_pos ⟨rfl, by rw [e]⟩, e]
    · rw [if_neg (by omega)]
      exact h1 s (by omega)
  · rw [up_at, if_neg (by omega), up_at, if_neg (by omega)]
    exact h2 a ha s hs
  · rw [up_s]
    exact hv e
  · rw [up_at, if_neg (by omega), up_at, if_neg (by omega)]
    exact h4 q k a b
theorem LayI.start {f : Nat → Ln} {i T : Nat} {c0 c c1 : CF} {v : Int32} (hb : ∀ a, a < i → BitM f a T c) (ho : LO c0 c) (e : c1 = up c 46 i v) (hv : (f i).1 = 0 → v = nI (f i).2.2.1) : LayI f i 0 T c0 c1 := by
  subst e
  refine ⟨fun s hs => absurd hs (Nat.not_lt_zero s), fun a ha s hs => ?_, fun e => ?_, fun q k a b => ?_⟩
  · rw [up_at, if_neg (by omega)]
    exact hb a ha s hs
  · rw [up_s]
    exact hv e
  · rw [up_at, if_neg (by omega)]
    exact ho q k a b
theorem LayI.row {f : Nat → Ln} {i t T : Nat} {c0 c : CF} {z : Sg} (h : LayI f i t T c0 c) (hA : RowM c0 41 0 z) (hz : SgOk z) : RowM c 41 0 z := h.2.2.2.qo.row hA hz
theorem LayI.done {f : Nat → Ln} {i t T : Nat} {c0 c : CF} (h : LayI f i t T c0 c) (ht : t = T) : ∀ a, a < i + 1 → BitM f a T c := by
  intro a ha
  by_cases e : a = i
  · rw [e, ← ht]
    exact h.1
  · exact h.2.1 a (by omega)
theorem low_bit : ∀ n x, x < 2 ^ n → x ≠ 0 → fb_ct (fun t => (x &&& (x - 1)).testBit t) n + 1 = fb_ct (fun t => x.testBit t) n
  | 0, x, h, h0 => absurd h (by simpa using h0)
  | n + 1, x, h, h0 => by
    have hs := fun p => fb_ct_split p 1 n
    have s1 := hs (fun t => (x &&& (x - 1)).testBit t)
    have s2 := hs (fun t => x.testBit t)
    rw [Nat.add_comm 1 n] at s1 s2
    rw [s1, s2]
    have f1 : ∀ p : Nat → Bool, fb_ct p 1 = if p 0 then 1 else 0 := fun p => by rw [fb_ct_succ]; exact Nat.zero_add _
    rw [f1, f1]
    rcases Nat.mod_two_eq_zero_or_one x with e | e
    · have hy : x / 2 < 2 ^ n := by omega
      have ih : fb_ct (x / 2 &&& (x / 2 - 1)).testBit n + 1 = fb_ct (x / 2).testBit n := low_bit n (x / 2) hy (by omega)
      have b0 : x.testBit 0 = false := by simp [Nat.testBit_zero, e]
      have c1 : ∀ k, (x &&& (x - 1)).testBit (1 + k) = (x / 2 &&& (x / 2 - 1)).testBit k := fun k => by
        rw [Nat.testBit_and, Nat.testBit_and, Nat.add_comm 1 k, Nat.testBit_succ, Nat.testBit_succ, show (x - 1) / 2 = x / 2 - 1 from by omega]
      have c2 : ∀ k, x.testBit (1 + k) = (x / 2).testBit k := fun k => by rw [Nat.add_comm 1 k, Nat.testBit_succ]
      rw [fb_ct_cong (fun k _ => c1 k), fb_ct_cong (fun k _ => c2 k), Nat.testBit_and, b0]
      simp only [Bool.false_and, Bool.false_eq_true, if_false]
      omega
    · have b0 : x.testBit 0 = true := by simp [Nat.testBit_zero, e]
      have b1 : (x - 1).testBit 0 = false := by simp [Nat.testBit_zero]; omega
      have c1 : ∀ k, (x &&& (x - 1)).testBit (1 + k) = x.testBit (1 + k) := fun k => by
        rw [Nat.testBit_and, Nat.add_comm 1 k, Nat.testBit_succ, Nat.testBit_succ, show (x - 1) / 2 = x / 2 from by omega, Bool.and_self]
      rw [fb_ct_cong (fun k _ => c1 k), Nat.testBit_and, b0, b1]
      simp only [Bool.and_false, Bool.false_eq_true, if_false, if_true]
      omega
def pb (x : Nat) : Nat := fb_ct (fun t => x.testBit t) 32
theorem pb_0 : pb 0 = 0 := by unfold pb; decide
theorem pb_step {x : Nat} (h : x < 2 ^ 32) (h0 : x ≠ 0) : pb (x &&& (x - 1)) + 1 = pb x := low_bit 32 x h h0
/-- the exact shares -/
theorem exM_step {f : Nat → Ln} {i : Nat} {c0 c c1 : CF} (h : (∀ a, a < i → c 47 a = nI (ex f a)) ∧ ∀ q k, q ≠ 47 → c q k = c0 q k) (e : c1 = up c 47 i (nI (ex f i))) : (∀ a, a < i + 1 → c1 47 a = nI (ex f a)) ∧ ∀ q k, q ≠ 47 → c1 q k = c0 q k := by
  subst e
  refine ⟨fun a ha => ?_, fun q k hq => ?_⟩
  · rw [up_at]
    by_cases e : a = i
    · rw [if_pos ⟨rfl, e⟩, e]
    · rw [if_neg (by omega)]
      exact h.1 a (by omega)
  · rw [up_at, if_neg (by omega)]
    exact h.2 q k hq
def DepI (f : Nat → Ln) (i : Nat) (c0 c : CF) : Prop := (∀ a, a < i → c 50 a = nI (dp f a) ∧ c 51 a = nI (og f a)) ∧ ∀ q k, q ≠ 50 → q ≠ 51 → c q k = c0 q k
theorem DepI.start (f : Nat → Ln) (c : CF) : DepI f 0 c c := ⟨fun a ha => absurd ha (Nat.not_lt_zero a), fun _ _ _ _ => rfl⟩
theorem DepI.step {f : Nat → Ln} {i : Nat} {c0 c c1 : CF} (h : DepI f i c0 c) (h1 : c1 50 i = nI (dp f i)) (h2 : c1 51 i = nI (og f i)) (ho : ∀ q k, ¬ ((q = 50 ∨ q = 51) ∧ k = i) → c1 q k = c q k) : DepI f (i + 1) c0 c1 := by
  refine ⟨fun a ha => ?_, fun q k q1 q2 => (ho q k (by omega)).trans (h.2 q k q1 q2)⟩
  by_cases e : a = i
  · rw [e]
    exact ⟨h1, h2⟩
  · rw [ho _ _ (by omega), ho _ _ (by omega)]
    exact h.1 a (by omega)
theorem DepI.row {f : Nat → Ln} {i : Nat} {c0 c : CF} {z : Sg} (h : DepI f i c0 c) (hA : RowM c0 41 0 z) (hz : SgOk z) : RowM c 41 0 z := hA.keep hz.1 fun i _ _ => h.2 _ _ (by omega) (by omega)
theorem DepI.scr {f : Nat → Ln} {i : Nat} {c0 c : CF} (h : DepI f i c0 c) : ScrM c0 c := fun q i h1 h2 h3 h4 h5 h6 h7 h8 => h.2 q i h6 h7
/-! the row's cells -/
theorem RowM.k {c : CF} {z : Sg} (h : RowM c 41 0 z) {j : Nat} (hj : j < z.1) : c 41 (2 + 4 * j + 0) = nI (z.2.2 j).1 := by
  have h9 := (h.2.2 j hj).1
  rw [Nat.zero_add] at h9
  exact h9
theorem RowM.w1 {c : CF} {z : Sg} (h : RowM c 41 0 z) {j : Nat} (hj : j < z.1) : c 41 (2 + 4 * j + 1) = wM (z.2.2 j) 1 := by
  have h9 := (h.2.2 j hj).2.1
  rw [Nat.zero_add] at h9
  exact h9
theorem RowM.w2 {c : CF} {z : Sg} (h : RowM c 41 0 z) {j : Nat} (hj : j < z.1) : c 41 (2 + 4 * j + 2) = wM (z.2.2 j) 2 := by
  have h9 := (h.2.2 j hj).2.2.1
  rw [Nat.zero_add] at h9
  exact h9
theorem RowM.w3 {c : CF} {z : Sg} (h : RowM c 41 0 z) {j : Nat} (hj : j < z.1) : c 41 (2 + 4 * j + 3) = wM (z.2.2 j) 3 := by
  have h9 := (h.2.2 j hj).2.2.2
  rw [Nat.zero_add] at h9
  exact h9
theorem lN_ne {n : Nat} (h1 : 1 ≤ n) (h2 : n ≤ 1000) : ¬ lN n = 0 := by
  intro q
  have h5 := lNT (a := n) (by omega)
  rw [q] at h5
  have h6 : (0 : Int64).toInt = 0 := rfl
  omega
