/-! the state in numbers: (how many lines, the length, the lines: kind and three numbers) -/
abbrev Ln : Type := Nat × Nat × Nat × Nat
abbrev Sg : Type := Nat × Nat × (Nat → Ln)
def LnOk (j : Nat) (q : Ln) : Prop := q.1 ≤ 6 ∧ (q.1 = 0 → q.2.1 ≤ 256 ∧ 1 ≤ q.2.2.1 ∧ q.2.2.1 ≤ 255) ∧ (1 ≤ q.1 → q.2.1 < j) ∧ (1 ≤ q.1 → q.1 ≤ 4 → q.2.2.1 < j) ∧ (q.1 = 4 → q.2.2.2 < j) ∧ (q.1 = 6 → 1 ≤ q.2.2.1 ∧ q.2.2.1 ≤ 60) ∧ q.2.2.1 ≤ 256 ∧ q.2.2.2 ≤ 256
def SgOk (z : Sg) : Prop := z.1 ≤ 16 ∧ 1 ≤ z.2.1 ∧ z.2.1 ≤ 1000 ∧ ∀ j, j < z.1 → LnOk j (z.2.2 j)
def LnAt (b : Nat) (c : CF) (j : Nat) (q : Ln) : Prop := c (20 + b) j = nI q.1 ∧ c (30 + b) (3 * j) = nI q.2.1 ∧ c (30 + b) (3 * j + 1) = nI q.2.2.1 ∧ c (30 + b) (3 * j + 2) = nI q.2.2.2
/-- a bench's lines -/
def RepL (b : Nat) (c : CF) (n : Nat) (f : Nat → Ln) : Prop := c 2 b = nI n ∧ ∀ j, j < n → LnAt b c j (f j)
def RepB (b : Nat) (c : CF) (z : Sg) : Prop := c 1 b = nI z.2.1 ∧ RepL b c z.1 z.2.2
/-- all but the lines of a bench is as it was -/
def Oth (b : Nat) (c0 c : CF) : Prop := ∀ q i, q ≠ 20 + b → q ≠ 30 + b → ¬ (q = 2 ∧ i = b) → c q i = c0 q i
def addC (b n : Nat) (k f s t : Int32) (c : CF) : CF := up (up (up (up (up c (20 + b) n k) (30 + b) (3 * n) f) (30 + b) (3 * n + 1) s) (30 + b) (3 * n + 2) t) 2 b (nI (n + 1))
theorem addC_oth (b n : Nat) (k f s t : Int32) (c : CF) : Oth b c (addC b n k f s t c) := by
  intro q i h1 h2 h3
  unfold addC
  rw [up_at, if_neg h3, up_at, if_neg (fun e => h2 e.1), up_at, if_neg (fun e => h2 e.1), up_at, if_neg (fun e => h2 e.1), up_at, if_neg (fun e => h1 e.1)]
theorem addC_k (b n : Nat) (hb : b < 7) (k f s t : Int32) (c : CF) (j : Nat) : addC b n k f s t c (20 + b) j = if j = n then k else c (20 + b) j := by
  unfold addC
  rw [up_at, if_neg (by omega), up_at, if_neg (by omega), up_at, if_neg (by omega), up_at, if_neg (by omega), up_at]
  by_cases h : j = n
  · rw [if_pos ⟨rfl, h⟩, if_pos h]
  · rw [if_neg (fun e => h e.2), if_neg h]
theorem addC_n (b n : Nat) (hb : b < 7) (k f s t : Int32) (c : CF) (j : Nat) : addC b n k f s t c (30 + b) j = if j = 3 * n + 2 then t else if j = 3 * n + 1 then s else if j = 3 * n then f else c (30 + b) j := by
  unfold addC
  have h0 : ¬ (30 + b = 2 ∧ j = b) := by omega
  have h9 : ¬ (30 + b = 20 + b ∧ j = n) := by omega
  rw [up_at, if_neg h0, up_at, up_at, up_at, up_at, if_neg h9]
  simp only [true_and]
theorem addC_s (b n : Nat) (k f s t : Int32) (c : CF) : addC b n k f s t c 2 b = nI (n + 1) := by
  unfold addC
  rw [up_at, if_pos ⟨rfl, rfl⟩]
def CopyP (b b2 m n : Nat) (c0 c : CF) : Prop := c 2 b = nI (m + n) ∧ (∀ j, j < n → c (20 + b) (m + j) = c0 (20 + b2) j ∧ ∀ k, k < 3 → c (30 + b) (3 * (m + j) + k) = c0 (30 + b2) (3 * j + k)) ∧ (∀ j, j < m → c (20 + b) j = c0 (20 + b) j) ∧ (∀ j, j < 3 * m → c (30 + b) j = c0 (30 + b) j) ∧ Oth b c0 c
theorem CopyP.start {b b2 m : Nat} {c : CF} (h : c 2 b = nI m) : CopyP b b2 m 0 c c := ⟨h, fun j hj => absurd hj (Nat.not_lt_zero _), fun _ _ => rfl, fun _ _ => rfl, fun _ _ _ _ _ => rfl⟩
theorem CopyP.src {b b2 m n : Nat} {c0 c : CF} (h : CopyP b b2 m n c0 c) (hb : b < 7) (hb2 : b2 < 7) (hne : b ≠ b2) : c 2 b2 = c0 2 b2 ∧ (∀ j, c (20 + b2) j = c0 (20 + b2) j) ∧ ∀ j, c (30 + b2) j = c0 (30 + b2) j :=
  ⟨h.2.2.2.2 _ _ (by omega) (by omega) (by omega), fun j => h.2.2.2.2 _ _ (by omega) (by omega) (by omega), fun j => h.2.2.2.2 _ _ (by omega) (by omega) (by omega)⟩
theorem CopyP.step {b b2 m n : Nat} {c0 c c1 : CF} (h : CopyP b b2 m n c0 c) (hb : b < 7) (hb2 : b2 < 7) (hne : b ≠ b2) (e : c1 = addC b (m + n) (c (20 + b2) n) (c (30 + b2) (3 * n)) (c (30 + b2) (3 * n + 1)) (c (30 + b2) (3 * n + 2)) c) : CopyP b b2 m (n + 1) c0 c1 := by
  obtain ⟨s1, s2, s3⟩ := h.src hb hb2 hne
  obtain ⟨h1, h2, h3, h4, h5⟩ := h
  subst e
  refine ⟨addC_s _ _ _ _ _ _ _, fun j hj => ⟨?_, fun k hk => ?_⟩, fun j hj => ?_, fun j hj => ?_, fun q i q1 q2 q3 => ?_⟩
  · rw [addC_k _ _ hb]
    by_cases e : j = n
    · subst e
      rw [if_pos rfl, s2]
    · rw [if_neg (by omega)]
      exact (h2 j (by omega)).1
  · rw [addC_n _ _ hb]
    by_cases e : j = n
    · subst e
      rw [s3, s3, s3]
      by_cases k2 : k = 2
      · rw [if_pos (by omega), k2]
      · by_cases k1 : k = 1
        · rw [if_neg (by omega), if_pos (by omega), k1]
        · have k0 : k = 0 := by omega
          rw [if_neg (by omega), if_neg (by omega), if_pos (by omega), k0, Nat.add_zero]
    · rw [if_neg (by omega), if_neg (by omega), if_neg (by omega)]
      exact (h2 j (by omega)).2 k hk
  · rw [addC_k _ _ hb, if_neg (by omega)]
    exact h3 j hj
  · rw [addC_n _ _ hb, if_neg (by omega), if_neg (by omega), if_neg (by omega)]
    exact h4 j hj
  · rw [addC_oth _ _ _ _ _ _ _ q i q1 q2 q3]
    exact h5 q i q1 q2 q3
/-- a bench is made a copy of another one -/
def CopyOf (b b2 : Nat) (c0 c : CF) : Prop := c 1 b = c0 1 b2 ∧ (∃ n, n ≤ 16 ∧ c0 2 b2 = nI n ∧ c 2 b = nI n ∧ ∀ j, j < n → c (20 + b) j = c0 (20 + b2) j ∧ ∀ k, k < 3 → c (30 + b) (3 * j + k) = c0 (30 + b2) (3 * j + k)) ∧ ∀ q i, q ≠ 20 + b → q ≠ 30 + b → ¬ (q = 2 ∧ i = b) → ¬ (q = 1 ∧ i = b) → c q i = c0 q i
theorem CopyOf.mk' {b b2 n : Nat} {c0 c1 c2 c : CF} (hb : b < 7) (hb2 : b2 < 7) (hne : b ≠ b2) (hn : n ≤ 16) (h2 : c0 2 b2 = nI n) (e1 : c1 = up c0 1 b (c0 1 b2)) (e2 : c2 = up c1 2 b (nI 0)) (h : CopyP b b2 0 n c2 c) : CopyOf b b2 c0 c := by
  obtain ⟨p1, p2, p3, p4, p5⟩ := h
  have hc2 : ∀ q i, ¬ (q = 2 ∧ i = b) → ¬ (q = 1 ∧ i = b) → c2 q i = c0 q i := by
    intro q i a1 a2
    rw [e2, up_at, if_neg a1, e1, up_at, if_neg a2]
  refine ⟨?_, ⟨n, hn, h2, by rw [p1, Nat.zero_add], fun j hj => ⟨?_, fun k hk => ?_⟩⟩, fun q i a1 a2 a3 a4 => ?_⟩
  · rw [p5 1 b (by omega) (by omega) (by omega), e2, up_at, if_neg (by omega), e1, up_at, if_pos ⟨rfl, rfl⟩]
  · have := (p2 j hj).1
    rw [Nat.zero_add] at this
    rw [this, hc2 _ _ (by omega) (by omega)]
  · have := (p2 j hj).2 k hk
    rw [Nat.zero_add] at this
    rw [this, hc2 _ _ (by omega) (by omega)]
  · rw [p5 q i a1 a2 a3, hc2 q i a3 a4]
theorem CopyOf.rep {b b2 : Nat} {c0 c : CF} {z : Sg} (h : CopyOf b b2 c0 c) (hz : RepB b2 c0 z) (hn : z.1 ≤ 16) : RepB b c z := by
  obtain ⟨h1, ⟨n, q0, q1, q2, q3⟩, -⟩ := h
  obtain ⟨z1, z2, z3⟩ := hz
  have e : n = z.1 := (nI_eq (by omega) (by omega)).mp (q1.symm.trans z2)
  subst e
  refine ⟨h1.trans z1, q2, fun j hj => ?_⟩
  obtain ⟨a1, a2, a3, a4⟩ := z3 j hj
  obtain ⟨b1, b2⟩ := q3 j hj
  exact ⟨b1.trans a1, (b2 0 (by omega)).trans a2, (b2 1 (by omega)).trans a3, (b2 2 (by omega)).trans a4⟩
/-- index of a number: line * 3 + which - 1 -/
theorem ix3 (j w : Nat) : nI j * nI 3 + nI (w + 1) - nI 1 = nI (3 * j + w) := by
  rw [pk_mul, nI_add, pk_sub (by omega)]
  congr 1
  omega
