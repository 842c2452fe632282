/-! exact shares, depths, origins: each line's out of those ahead -/
def tabN (st : Nat → Ln → (Nat → Nat) → Nat) (f : Nat → Ln) : Nat → Nat → Nat
  | 0 => fun _ => 0
  | j + 1 => fun i => if i = j then st j (f j) (tabN st f j) else tabN st f j i
def cv (st : Nat → Ln → (Nat → Nat) → Nat) (f : Nat → Ln) (j : Nat) : Nat := tabN st f (j + 1) j
theorem tabN_eq (st : Nat → Ln → (Nat → Nat) → Nat) (f : Nat → Ln) : ∀ (j i : Nat), i < j → tabN st f j i = cv st f i
  | 0, i, h => absurd h (Nat.not_lt_zero i)
  | j + 1, i, h => by
    by_cases e : i = j
    · subst e
      rfl
    · show (if i = j then st j (f j) (tabN st f j) else tabN st f j i) = _
      rw [if_neg e]
      exact tabN_eq st f j i (by omega)
theorem cv_eq {st : Nat → Ln → (Nat → Nat) → Nat} (hst : ∀ j q X Y, LnOk j q → (∀ i, i < j → X i = Y i) → st j q X = st j q Y) {f : Nat → Ln} {j : Nat} (hq : LnOk j (f j)) : cv st f j = st j (f j) (cv st f) := by
  show (if j = j then st j (f j) (tabN st f j) else tabN st f j j) = _
  rw [if_pos rfl]
  exact hst j _ _ _ hq (fun i hi => tabN_eq st f j i hi)
theorem tabN_cong (st : Nat → Ln → (Nat → Nat) → Nat) {f f' : Nat → Ln} : ∀ j, (∀ k, k < j → f k = f' k) → tabN st f j = tabN st f' j
  | 0, _ => rfl
  | j + 1, h => by
    funext i
    show (if i = j then st j (f j) (tabN st f j) else tabN st f j i) = (if i = j then st j (f' j) (tabN st f' j) else tabN st f' j i)
    rw [tabN_cong st j (fun k hk => h k (by omega)), h j (by omega)]
theorem cv_cong (st : Nat → Ln → (Nat → Nat) → Nat) {f f' : Nat → Ln} {j : Nat} (h : ∀ k, k ≤ j → f k = f' k) : cv st f j = cv st f' j := by
  unfold cv
  rw [tabN_cong st (j + 1) (fun k hk => h k (by omega))]
def exS (_ : Nat) (q : Ln) (X : Nat → Nat) : Nat :=
  if q.1 = 0 then q.2.1 * 256
  else if q.1 = 1 then X q.2.1 * X q.2.2.1 / 65536
  else if q.1 = 2 then X q.2.1 + X q.2.2.1 - X q.2.1 * X q.2.2.1 / 65536
  else if q.1 = 3 then X q.2.1 + X q.2.2.1 - 2 * (X q.2.1 * X q.2.2.1 / 65536)
  else if q.1 = 4 then (X q.2.1 * X q.2.2.2 + X q.2.2.1 * (65536 - X q.2.2.2)) / 65536
  else if q.1 = 5 then 65536 - X q.2.1
  else X q.2.1
def dpS (_ : Nat) (q : Ln) (X : Nat → Nat) : Nat :=
  if q.1 = 0 then 0
  else if q.1 ≤ 3 then max (1 + X q.2.1) (1 + X q.2.2.1)
  else if q.1 = 4 then max (max (1 + X q.2.1) (1 + X q.2.2.1)) (1 + X q.2.2.2)
  else 1 + X q.2.1
def ogS (j : Nat) (q : Ln) (X : Nat → Nat) : Nat :=
  if q.1 = 0 then 2 ^ j
  else if q.1 ≤ 3 then X q.2.1 ||| X q.2.2.1
  else if q.1 = 4 then X q.2.1 ||| X q.2.2.1 ||| X q.2.2.2
  else X q.2.1
def ex (f : Nat → Ln) (j : Nat) : Nat := cv exS f j
def dp (f : Nat → Ln) (j : Nat) : Nat := cv dpS f j
def og (f : Nat → Ln) (j : Nat) : Nat := cv ogS f j
theorem LnOk.ahead {j : Nat} {q : Ln} (h : LnOk j q) : q.1 = 0 ∨ (1 ≤ q.1 ∧ q.1 ≤ 3 ∧ q.2.1 < j ∧ q.2.2.1 < j) ∨ (q.1 = 4 ∧ q.2.1 < j ∧ q.2.2.1 < j ∧ q.2.2.2 < j) ∨ (q.1 = 5 ∧ q.2.1 < j) ∨ (q.1 = 6 ∧ q.2.1 < j) := by
  obtain ⟨h1, h2, h3, h4, h5, -⟩ := h
  rcases (show q.1 = 0 ∨ (1 ≤ q.1 ∧ q.1 ≤ 3) ∨ q.1 = 4 ∨ q.1 = 5 ∨ q.1 = 6 by omega) with k | k | k | k | k
  · exact Or.inl k
  · exact Or.inr (Or.inl ⟨k.1, k.2, h3 (by omega), h4 (by omega) (by omega)⟩)
  · exact Or.inr (Or.inr (Or.inl ⟨k, h3 (by omega), h4 (by omega) (by omega), h5 k⟩))
  · exact Or.inr (Or.inr (Or.inr (Or.inl ⟨k, h3 (by omega)⟩)))
  · exact Or.inr (Or.inr (Or.inr (Or.inr ⟨k, h3 (by omega)⟩)))
theorem exS_c (j : Nat) (q : Ln) (X Y : Nat → Nat) (hq : LnOk j q) (h : ∀ i, i < j → X i = Y i) : exS j q X = exS j q Y := by
  unfold exS
  rcases hq.ahead with k | ⟨k1, k2, ha, hb⟩ | ⟨k, ha, hb, hc⟩ | ⟨k, ha⟩ | ⟨k, ha⟩
  · rw [if_pos k, if_pos k]
  · rw [h _ ha, h _ hb]
    simp only [show ¬ q.1 = 4 by omega, show ¬ q.1 = 5 by omega, if_false]
  · rw [h _ ha, h _ hb, h _ hc]
  · rw [h _ ha]
    simp only [show ¬ q.1 = 1 by omega, show ¬ q.1 = 2 by omega, show ¬ q.1 = 3 by omega, show ¬ q.1 = 4 by omega, if_false]
  · rw [h _ ha]
    simp only [show ¬ q.1 = 1 by omega, show ¬ q.1 = 2 by omega, show ¬ q.1 = 3 by omega, show ¬ q.1 = 4 by omega, if_false]
theorem dpS_c (j : Nat) (q : Ln) (X Y : Nat → Nat) (hq : LnOk j q) (h : ∀ i, i < j → X i = Y i) : dpS j q X = dpS j q Y := by
  unfold dpS
  rcases hq.ahead with k | ⟨k1, k2, ha, hb⟩ | ⟨k, ha, hb, hc⟩ | ⟨k, ha⟩ | ⟨k, ha⟩
  · rw [if_pos k, if_pos k]
  · rw [h _ ha, h _ hb]
    simp only [show ¬ q.1 = 4 by omega, if_false]
  · rw [h _ ha, h _ hb, h _ hc]
  · rw [h _ ha]
    simp only [show ¬ q.1 ≤ 3 by omega, show ¬ q.1 = 4 by omega, if_false]
  · rw [h _ ha]
    simp only [show ¬ q.1 ≤ 3 by omega, show ¬ q.1 = 4 by omega, if_false]
theorem ogS_c (j : Nat) (q : Ln) (X Y : Nat → Nat) (hq : LnOk j q) (h : ∀ i, i < j → X i = Y i) : ogS j q X = ogS j q Y := by
  unfold ogS
  rcases hq.ahead with k | ⟨k1, k2, ha, hb⟩ | ⟨k, ha, hb, hc⟩ | ⟨k, ha⟩ | ⟨k, ha⟩
  · rw [if_pos k, if_pos k]
  · rw [h _ ha, h _ hb]
    simp only [show ¬ q.1 = 4 by omega, if_false]
  · rw [h _ ha, h _ hb, h _ hc]
  · rw [h _ ha]
    simp only [show ¬ q.1 ≤ 3 by omega, show ¬ q.1 = 4 by omega, if_false]
  · rw [h _ ha]
    simp only [show ¬ q.1 ≤ 3 by omega, show ¬ q.1 = 4 by omega, if_false]
theorem ex_eq {f : Nat → Ln} {j : Nat} (hq : LnOk j (f j)) : ex f j = exS j (f j) (ex f) := cv_eq exS_c hq
theorem dp_eq {f : Nat → Ln} {j : Nat} (hq : LnOk j (f j)) : dp f j = dpS j (f j) (dp f) := cv_eq dpS_c hq
theorem og_eq {f : Nat → Ln} {j : Nat} (hq : LnOk j (f j)) : og f j = ogS j (f j) (og f) := cv_eq ogS_c hq
theorem pq_le {a b : Nat} (ha : a ≤ 65536) : a * b / 65536 ≤ b := by
  have : a * b ≤ 65536 * b := Nat.mul_le_mul_right b ha
  omega
theorem pq_le2 {a b : Nat} (hb : b ≤ 65536) : a * b / 65536 ≤ a := by
  rw [Nat.mul_comm]
  exact pq_le hb
theorem pq_ge {a b : Nat} (ha : a ≤ 65536) (hb : b ≤ 65536) : a + b ≤ a * b / 65536 + 65536 := by
  obtain ⟨x, hx⟩ : ∃ x, x = 65536 - a := ⟨_, rfl⟩
  obtain ⟨y, hy⟩ : ∃ y, y = 65536 - b := ⟨_, rfl⟩
  have ea : a = 65536 - x := by omega
  have eb : b = 65536 - y := by omega
  have h : 65536 * (a + b) ≤ a * b + 65536 * 65536 := by
    obtain ⟨b', hb'⟩ : ∃ b', 65536 = b + b' := ⟨65536 - b, by omega⟩
    have h1 : a * b' ≤ 65536 * b' := Nat.mul_le_mul_right b' ha
    have h2 : a * 65536 = a * b + a * b' := by
      have : a * (b + b') = a * b + a * b' := Nat.mul_add a b b'
      rw [← hb'] at this
      exact this
    omega
  omega
/-- twice the product: within the whole -/
theorem pq_2 {a b : Nat} (ha : a ≤ 65536) (hb : b ≤ 65536) : a + b - 2 * (a * b / 65536) ≤ 65536 := by
  obtain ⟨x, hx⟩ : ∃ x, x = 65536 - a := ⟨_, rfl⟩
  obtain ⟨y, hy⟩ : ∃ y, y = 65536 - b := ⟨_, rfl⟩
  rcases Nat.le_total a b with h | h
  · have h2 : b * 65536 ≤ a * b + 65536 * (65536 - a) := by
      obtain ⟨a', ha'⟩ : ∃ a', 65536 = a + a' := ⟨65536 - a, by omega⟩
      have e : b * (a + a') = b * a + b * a' := Nat.mul_add b a a'
      rw [← ha'] at e
      have h3 : b * a' ≤ 65536 * a' := Nat.mul_le_mul_right a' hb
      have e2 : b * a = a * b := Nat.mul_comm b a
      have e3 : 65536 - a = a' := by omega
      rw [e3]
      omega
    have h4 := pq_ge ha hb
    omega
  · have h4 := pq_ge ha hb
    omega
theorem mix_le {a b c : Nat} (ha : a ≤ 65536) (hb : b ≤ 65536) (hc : c ≤ 65536) : (a * c + b * (65536 - c)) / 65536 ≤ 65536 := by
  have h1 : a * c ≤ 65536 * c := Nat.mul_le_mul_right c ha
  have h2 : b * (65536 - c) ≤ 65536 * (65536 - c) := Nat.mul_le_mul_right _ hb
  omega
theorem ex_le {f : Nat → Ln} {n : Nat} (hok : ∀ j, j < n → LnOk j (f j)) : ∀ j, j < n → ex f j ≤ 65536 := by
  intro j
  induction j using Nat.strongRecOn with
  | ind j ih =>
    intro hj
    have hq := hok j hj
    rw [ex_eq hq]
    unfold exS
    rcases hq.ahead with k | ⟨k1, k2, ha, hb⟩ | ⟨k, ha, hb, hc⟩ | ⟨k, ha⟩ | ⟨k, ha⟩
    · rw [if_pos k]
      have := (hq.2.1 k).1
      omega
    · have xa := ih _ ha (by omega)
      have xb := ih _ hb (by omega)
      have p1 := pq_le (b := ex f (f j).2.2.1) xa
      have p2 := pq_ge xa xb
      have p3 := pq_2 xa xb
      rcases (show (f j).1 = 1 ∨ (f j).1 = 2 ∨ (f j).1 = 3 by omega) with k | k | k
      · simp only [k, if_neg (show ¬ (1 : Nat) = 0 by decide), if_pos]
        omega
      · simp only [k, if_neg (show ¬ (2 : Nat) = 0 by decide), if_neg (show ¬ (2 : Nat) = 1 by decide), if_pos]
        omega
      · simp only [k, if_neg (show ¬ (3 : Nat) = 0 by decide), if_neg (show ¬ (3 : Nat) = 1 by decide), if_neg (show ¬ (3 : Nat) = 2 by decide), if_pos]
        omega
    · have xa := ih _ ha (by omega)
      have xb := ih _ hb (by omega)
      have xc := ih _ hc (by omega)
      have := mix_le xa xb xc
      simp only [k, if_neg (show ¬ (4 : Nat) = 0 by decide), if_neg (show ¬ (4 : Nat) = 1 by decide), if_neg (show ¬ (4 : Nat) = 2 by decide), if_neg (show ¬ (4 : Nat) = 3 by decide), if_pos]
      exact this
    · simp only [k, if_neg (show ¬ (5 : Nat) = 0 by decide), if_neg (show ¬ (5 : Nat) = 1 by decide), if_neg (show ¬ (5 : Nat) = 2 by decide), if_neg (show ¬ (5 : Nat) = 3 by decide), if_neg (show ¬ (5 : Nat) = 4 by decide), if_pos]
      omega
    · have xa := ih _ ha (by omega)
      simp only [k, if_neg (show ¬ (6 : Nat) = 0 by decide), if_neg (show ¬ (6 : Nat) = 1 by decide), if_neg (show ¬ (6 : Nat) = 2 by decide), if_neg (show ¬ (6 : Nat) = 3 by decide), if_neg (show ¬ (6 : Nat) = 4 by decide), if_neg (show ¬ (6 : Nat) = 5 by decide)]
      exact xa
theorem dp_le {f : Nat → Ln} {n : Nat} (hok : ∀ j, j < n → LnOk j (f j)) : ∀ j, j < n → dp f j ≤ j := by
  intro j
  induction j using Nat.strongRecOn with
  | ind j ih =>
    intro hj
    have hq := hok j hj
    rw [dp_eq hq]
    unfold dpS
    rcases hq.ahead with k | ⟨k1, k2, ha, hb⟩ | ⟨k, ha, hb, hc⟩ | ⟨k, ha⟩ | ⟨k, ha⟩
    · rw [if_pos k]; omega
    · have xa := ih _ ha (by omega)
      have xb := ih _ hb (by omega)
      rw [if_neg (by omega), if_pos k2]
      omega
    · have xa := ih _ ha (by omega)
      have xb := ih _ hb (by omega)
      have xc := ih _ hc (by omega)
      rw [if_neg (by omega), if_neg (by omega), if_pos k]
      omega
    · have xa := ih _ ha (by omega)
      rw [if_neg (by omega), if_neg (by omega), if_neg (by omega)]
      omega
    · have xa := ih _ ha (by omega)
      rw [if_neg (by omega), if_neg (by omega), if_neg (by omega)]
      omega
theorem og_lt {f : Nat → Ln} {n : Nat} (h16 : n ≤ 16) (hok : ∀ j, j < n → LnOk j (f j)) : ∀ j, j < n → og f j < 2 ^ 16 := by
  intro j
  induction j using Nat.strongRecOn with
  | ind j ih =>
    intro hj
    have hq := hok j hj
    rw [og_eq hq]
    unfold ogS
    rcases hq.ahead with k | ⟨k1, k2, ha, hb⟩ | ⟨k, ha, hb, hc⟩ | ⟨k, ha⟩ | ⟨k, ha⟩
    · rw [if_pos k]
      exact Nat.pow_lt_pow_right (by decide) (by omega)
    · rw [if_neg (by omega), if_pos k2]
      exact Nat.or_lt_two_pow (ih _ ha (by omega)) (ih _ hb (by omega))
    · rw [if_neg (by omega), if_neg (by omega), if_pos k]
      exact Nat.or_lt_two_pow (Nat.or_lt_two_pow (ih _ ha (by omega)) (ih _ hb (by omega))) (ih _ hc (by omega))
    · rw [if_neg (by omega), if_neg (by omega), if_neg (by omega)]
      exact ih _ ha (by omega)
    · rw [if_neg (by omega), if_neg (by omega), if_neg (by omega)]
      exact ih _ ha (by omega)
def FigI (i : Nat) (f : Nat → Ln) (c : CF) : Prop := (∀ a, a < i → c 3 a = nI (ex f a)) ∧ (∀ a, a < i → c 4 a = nI (dp f a)) ∧ ∀ a, a < i → c 5 a = nI (og f a)
def FigO (c0 c : CF) : Prop := ∀ q i, q ≠ 3 → q ≠ 4 → q ≠ 5 → c q i = c0 q i
theorem RepL.keep {b n : Nat} {f : Nat → Ln} {c c' : CF} (h : RepL b c n f) (h2 : c' 2 b = c 2 b) (hk : ∀ i, c' (20 + b) i = c (20 + b) i) (hn : ∀ i, c' (30 + b) i = c (30 + b) i) : RepL b c' n f := by
  refine ⟨h2.trans h.1, fun j hj => ?_⟩
  obtain ⟨a1, a2, a3, a4⟩ := h.2 j hj
  exact ⟨(hk _).trans a1, (hn _).trans a2, (hn _).trans a3, (hn _).trans a4⟩
theorem RepL.fig {b n : Nat} {f : Nat → Ln} {c c' : CF} (h : RepL b c n f) (ho : FigO c c') : RepL b c' n f := h.keep (ho _ _ (by omega) (by omega) (by omega)) (fun i => ho _ _ (by omega) (by omega) (by omega)) (fun i => ho _ _ (by omega) (by omega) (by omega))
theorem FigO.up {c0 c : CF} {r i : Nat} {v : Int32} (h : FigO c0 c) (hr : r = 3 ∨ r = 4 ∨ r = 5) : FigO c0 (up c r i v) := fun q j h3 h4 h5 => by
  rw [up_at, if_neg (by omega)]
  exact h q j h3 h4 h5
theorem shl_pow : ∀ j, j < 16 → nI 1 <<< (nI j &&& 31) = nI (2 ^ j) := by decide
def mxN (g : Nat → Nat) : Nat → Nat
  | 0 => 0
  | i + 1 => max (mxN g i) (g i)
theorem mxN_le {g : Nat → Nat} {k : Nat} : ∀ n, (∀ i, i < n → g i ≤ k) → mxN g n ≤ k
  | 0, _ => Nat.zero_le _
  | n + 1, h => by
    have h1 := mxN_le (k := k) n (fun i hi => h i (by omega))
    have h2 := h n (by omega)
    show max (mxN g n) (g n) ≤ k
    omega
