/-! the model's side -/
def wM (q : Ln) (w : Nat) : Int32 := if npK q.1 < w then NON else nI (nthN q (w - 1))
def LnM (c : CF) (r p : Nat) (q : Ln) : Prop := c r p = nI q.1 ∧ c r (p + 1) = wM q 1 ∧ c r (p + 2) = wM q 2 ∧ c r (p + 3) = wM q 3
def RowM (c : CF) (r o : Nat) (z : Sg) : Prop := c r o = nI z.1 ∧ c r (o + 1) = nI z.2.1 ∧ ∀ j, j < z.1 → LnM c r (o + 2 + 4 * j) (z.2.2 j)
def HisM (c : CF) (h : HS) : Prop := c 40 0 = nI h.1 ∧ ∀ i, i < h.1 → RowM c 43 (66 * i) (h.2 i)
def TxM (c : CF) (z : Tx) : Prop := c 40 2 = nI z.1 ∧ ∀ i, i < z.1 → c 48 i = nI (z.2 i)
def RepM (c : CF) (X : XS) : Prop := RowM c 41 0 X.1 ∧ HisM c X.2.1 ∧ (c 40 1 = nI X.2.2.1.1 ∧ (X.2.2.1.1 = 1 → RowM c 44 0 X.2.2.1.2)) ∧ TxM c X.2.2.2
def SameC (c c' : CF) : Prop := ∀ q i, q < 40 → c' q i = c q i
theorem SameC.rf (c : CF) : SameC c c := fun _ _ _ => rfl
theorem SameC.tr {a b c : CF} (h : SameC a b) (h2 : SameC b c) : SameC a c := fun q i hq => (h2 q i hq).trans (h q i hq)
/-- n cells of a row are copied -/
def CpyR (r o r2 o2 n : Nat) (c0 c : CF) : Prop := (∀ k, k < n → c r (o + k) = c0 r2 (o2 + k)) ∧ ∀ q i, ¬ (q = r ∧ o ≤ i ∧ i < o + n) → c q i = c0 q i
theorem CpyR.start (r o r2 o2 : Nat) (c : CF) : CpyR r o r2 o2 0 c c := ⟨fun k hk => absurd hk (Nat.not_lt_zero k), fun _ _ _ => rfl⟩
theorem CpyR.step {r o r2 o2 n : Nat} {c0 c c1 : CF} (h : CpyR r o r2 o2 n c0 c) (hne : r ≠ r2 ∨ o + n ≤ o2 + n ∧ o ≤ o2) (e : c1 = up c r (o + n) (c r2 (o2 + n))) : CpyR r o r2 o2 (n + 1) c0 c1 := by
  subst e
  refine ⟨fun k hk => ?_, fun q i hq => ?_⟩
  · rw [up_at]
    by_cases e : k = n
    · rw [if_pos ⟨rfl, by rw [e]⟩, e]
      exact h.2 _ _ (by omega)
    · rw [if_neg (by omega)]
      exact h.1 k (by omega)
  · rw [up_at, if_neg (by omega)]
    exact h.2 q i (by omega)
theorem LnM.keep {c c' : CF} {r p : Nat} {q : Ln} (h : LnM c r p q) (hk : ∀ i, p ≤ i → i < p + 4 → c' r i = c r i) : LnM c' r p q := ⟨(hk _ (by omega) (by omega)).trans h.1, (hk _ (by omega) (by omega)).trans h.2.1, (hk _ (by omega) (by omega)).trans h.2.2.1, (hk _ (by omega) (by omega)).trans h.2.2.2⟩
theorem RowM.keep {c c' : CF} {r o : Nat} {z : Sg} (h : RowM c r o z) (hz : z.1 ≤ 16) (hk : ∀ i, o ≤ i → i < o + 66 → c' r i = c r i) : RowM c' r o z := ⟨(hk _ (by omega) (by omega)).trans h.1, (hk _ (by omega) (by omega)).trans h.2.1, fun j hj => (h.2.2 j hj).keep fun i h1 h2 => hk i (by omega) (by omega)⟩
theorem LnM.copy {c c' : CF} {r p r2 p2 : Nat} {q : Ln} (h : LnM c r2 p2 q) (hk : ∀ i, i < 4 → c' r (p + i) = c r2 (p2 + i)) : LnM c' r p q := ⟨(hk 0 (by decide)).trans h.1, (hk 1 (by decide)).trans h.2.1, (hk 2 (by decide)).trans h.2.2.1, (hk 3 (by decide)).trans h.2.2.2⟩
theorem CpyR.row {r o r2 o2 : Nat} {c c' : CF} {z : Sg} (h : CpyR r o r2 o2 66 c c') (hz : RowM c r2 o2 z) (hn : z.1 ≤ 16) : RowM c' r o z := ⟨(h.1 0 (by decide)).trans hz.1, (h.1 1 (by decide)).trans hz.2.1, fun j hj => (hz.2.2 j hj).copy fun i hi => by
  have := h.1 (2 + 4 * j + i) (by omega)
  rw [show o + 2 + 4 * j + i = o + (2 + 4 * j + i) from by omega, show o2 + 2 + 4 * j + i = o2 + (2 + 4 * j + i) from by omega]
  exact this⟩
/-- what no call keeps, of the model -/
def ScrM (c c' : CF) : Prop := ∀ q i, q ≠ 42 → q ≠ 45 → q ≠ 46 → q ≠ 47 → q ≠ 49 → q ≠ 50 → q ≠ 51 → ¬ (q = 40 ∧ (i = 3 ∨ i = 4 ∨ i = 5)) → c' q i = c q i
theorem ScrM.rf (c : CF) : ScrM c c := fun _ _ _ _ _ _ _ _ _ _ => rfl
theorem ScrM.tr {a b c : CF} (h : ScrM a b) (h2 : ScrM b c) : ScrM a c := fun q i h1 h3 h4 h5 h6 h7 h8 h9 => (h2 q i h1 h3 h4 h5 h6 h7 h8 h9).trans (h q i h1 h3 h4 h5 h6 h7 h8 h9)
theorem ScrM.up {c0 c : CF} (h : ScrM c0 c) {r i : Nat} {v : Int32} (hr : r = 42 ∨ r = 45 ∨ r = 46 ∨ r = 47 ∨ r = 49 ∨ r = 50 ∨ r = 51 ∨ (r = 40 ∧ (i = 3 ∨ i = 4 ∨ i = 5))) : ScrM c0 (up c r i v) := by
  intro q j h1 h2 h3 h4 h5 h6 h7 h8
  rw [up_at, if_neg (by omega)]
  exact h q j h1 h2 h3 h4 h5 h6 h7 h8
theorem ScrM.c {c c' : CF} (h : ScrM c c') : SameC c c' := fun q i hq => h q i (by omega) (by omega) (by omega) (by omega) (by omega) (by omega) (by omega) (by omega)
theorem TxM.keep {c c' : CF} {z : Tx} (h : TxM c z) (h1 : c' 40 2 = c 40 2) (h2 : ∀ i, c' 48 i = c 48 i) : TxM c' z := ⟨h1.trans h.1, fun i hi => (h2 i).trans (h.2 i hi)⟩
theorem HisM.keep {c c' : CF} {h : HS} (hh : HisM c h) (ho : HisOk h) (h1 : c' 40 0 = c 40 0) (h2 : ∀ i, c' 43 i = c 43 i) : HisM c' h := ⟨h1.trans hh.1, fun i hi => (hh.2 i hi).keep (ho.2 i hi).1 fun k _ _ => h2 k⟩
theorem ScrM.rep {c c' : CF} {X : XS} (h : RepM c X) (hX : XOk X) (hs : ScrM c c') : RepM c' X := by
  obtain ⟨h1, h2, ⟨h3, h4⟩, h5⟩ := h
  have hk : ∀ q i, (q = 41 ∨ q = 43 ∨ q = 44 ∨ q = 48 ∨ (q = 40 ∧ i ≤ 2)) → c' q i = c q i := fun q i hq => hs q i (by omega) (by omega) (by omega) (by omega) (by omega) (by omega) (by omega) (by omega)
  exact ⟨h1.keep hX.1.1 fun i _ _ => hk _ _ (by omega), h2.keep hX.2.1 (hk _ _ (by omega)) (fun i => hk _ _ (by omega)), ⟨(hk _ _ (by omega)).trans h3, fun e => (h4 e).keep (hX.2.2.1.2 e).1 fun i _ _ => hk _ _ (by omega)⟩, h5.keep (hk _ _ (by omega)) (fun i => hk _ _ (by omega))⟩
/-- the remembered state comes into the history -/
def ActP (h : Nat) (c0 c : CF) : Prop := c 40 0 = nI (min h 3 + 1) ∧ (∀ k, k < 66 → c 43 (66 * min h 3 + k) = c0 42 k) ∧ (∀ i, i < 66 * min h 3 → c 43 i = c0 43 (if h = 4 then i + 66 else i)) ∧ ∀ q i, q ≠ 43 → ¬ (q = 40 ∧ i = 0) → c q i = c0 q i
theorem ActP.rep {c0 c : CF} {X : XS} {z : Sg} (h : ActP X.2.1.1 c0 c) (hX : XOk X) (hz : z.1 ≤ 16) (hK : RowM c0 42 0 X.1) (hA : RowM c0 41 0 z) (hH : HisM c0 X.2.1) (hS : c0 40 1 = nI X.2.2.1.1 ∧ (X.2.2.1.1 = 1 → RowM c0 44 0 X.2.2.1.2)) (hT : TxM c0 X.2.2.2) : RepM c (actd X z) := by
  obtain ⟨h1, h2, h3, h4⟩ := h
  have hh4 := hX.2.1.1
  refine ⟨hA.keep hz fun i _ _ => h4 _ _ (by omega) (by omega), ?_, ⟨(h4 _ _ (by omega) (by omega)).trans hS.1, fun e => (hS.2 e).keep (hX.2.2.1.2 e).1 fun i _ _ => h4 _ _ (by omega) (by omega)⟩, hT.keep (h4 _ _ (by omega) (by omega)) fun i => h4 _ _ (by omega) (by omega)⟩
  have hnew : RowM c 43 (66 * min X.2.1.1 3) X.1 := ⟨(h2 0 (by decide)).trans hK.1, (h2 1 (by decide)).trans hK.2.1, fun j hj => (hK.2.2 j hj).copy fun i hi => by
    have hn := hX.1.1
    have := h2 (2 + 4 * j + i) (by omega)
    rw [show 66 * min X.2.1.1 3 + 2 + 4 * j + i = 66 * min X.2.1.1 3 + (2 + 4 * j + i) from by omega, this, show 0 + 2 + 4 * j + i = 2 + 4 * j + i from by omega]⟩
  show HisM c (pushH X.2.1 X.1)
  unfold pushH
  by_cases q : X.2.1.1 < 4
  · rw [if_pos q]
    have hm : min X.2.1.1 3 = X.2.1.1 := by omega
    rw [hm] at h1 h3 hnew
    refine ⟨h1, fun i hi => ?_⟩
    have hi : i < X.2.1.1 + 1 := hi
    show RowM c 43 (66 * i) (if i = X.2.1.1 then X.1 else X.2.1.2 i)
    by_cases e : i = X.2.1.1
    · rw [if_pos e, e]
      exact hnew
    · rw [if_neg e]
      exact (hH.2 i (by omega)).keep (hX.2.1.2 i (by omega)).1 fun k k1 k2 => by rw [h3 k (by omega), if_neg (by omega)]
  · rw [if_neg q]
    have hm : min X.2.1.1 3 = 3 := by omega
    rw [hm] at h1 h3 hnew
    refine ⟨h1, fun i hi => ?_⟩
    have hi : i < 4 := hi
    show RowM c 43 (66 * i) (if i = 3 then X.1 else X.2.1.2 (i + 1))
    by_cases e : i = 3
    · rw [if_pos e, e]
      exact hnew
    · rw [if_neg e]
      have hr := hH.2 (i + 1) (by omega)
      have hn := (hX.2.1.2 (i + 1) (by omega)).1
      have hk : ∀ k, k < 66 → c 43 (66 * i + k) = c0 43 (66 * (i + 1) + k) := fun k hk => by
        rw [h3 _ (by omega), if_pos (by omega)]
        congr 1
        omega
      exact ⟨(hk 0 (by decide)).trans hr.1, (hk 1 (by decide)).trans hr.2.1, fun j hj => (hr.2.2 j hj).copy fun t ht => by
        have := hk (2 + 4 * j + t) (by omega)
        rw [show 66 * i + 2 + 4 * j + t = 66 * i + (2 + 4 * j + t) from by omega, show 66 * (i + 1) + 2 + 4 * j + t = 66 * (i + 1) + (2 + 4 * j + t) from by omega]
        exact this⟩
theorem ActP.same {h : Nat} {c0 c : CF} (ha : ActP h c0 c) : SameC c0 c := fun q i hq => ha.2.2.2 q i (by omega) (by omega)
/-- a line more in the row -/
def putC (n : Nat) (k f s t : Int32) (c : CF) : CF := up (up (up (up (up c 41 (2 + 4 * n) k) 41 (2 + 4 * n + 1) f) 41 (2 + 4 * n + 2) s) 41 (2 + 4 * n + 3) t) 41 0 (nI (n + 1))
theorem putC_oth {n : Nat} {k f s t : Int32} {c : CF} : ∀ q i, q ≠ 41 → putC n k f s t c q i = c q i := fun q i hq => by
  unfold putC
  rw [up_at, if_neg (by omega), up_at, if_neg (by omega), up_at, if_neg (by omega), up_at, if_neg (by omega), up_at, if_neg (by omega)]
theorem putC_at {n : Nat} {k f s t : Int32} {c : CF} (i : Nat) : putC n k f s t c 41 i = if i = 0 then nI (n + 1) else if i = 2 + 4 * n + 3 then t else if i = 2 + 4 * n + 2 then s else if i = 2 + 4 * n + 1 then f else if i = 2 + 4 * n then k else c 41 i := by
  unfold putC
  rw [up_at, up_at, up_at, up_at, up_at]
  simp only [true_and]
theorem putC_row {c : CF} {z : Sg} {q : Ln} (h : RowM c 41 0 z) : RowM (putC z.1 (nI q.1) (wM q 1) (wM q 2) (wM q 3) c) 41 0 (z.1 + 1, z.2.1, fun j => if j = z.1 then q else z.2.2 j) := by
  refine ⟨?_, ?_, fun j hj => ?_⟩
  · rw [putC_at, if_pos rfl]
  · rw [putC_at, if_neg (by omega), if_neg (by omega), if_neg (by omega), if_neg (by omega), if_neg (by omega)]
    exact h.2.1
  · have hj : j < z.1 + 1 := hj
    show LnM _ 41 (0 + 2 + 4 * j) (if j = z.1 then q else z.2.2 j)
    unfold LnM
    rw [putC_at, putC_at, putC_at, putC_at]
    by_cases e : j = z.1
    · subst e
      rw [if_pos rfl, if_neg (by omega), if_neg (by omega), if_neg (by omega), if_neg (by omega), if_pos (by omega), if_neg (by omega), if_neg (by omega), if_neg (by omega), if_pos (by omega), if_neg (by omega), if_neg (by omega), if_pos (by omega), if_neg (by omega), if_pos (by omega)]
      exact ⟨rfl, rfl, rfl, rfl⟩
    · rw [if_neg e]
      have h3 := h.2.2 j (by omega)
      unfold LnM at h3
      rw [if_neg (by omega), if_neg (by omega), if_neg (by omega), if_neg (by omega), if_neg (by omega), if_neg (by omega), if_neg (by omega), if_neg (by omega), if_neg (by omega), if_neg (by omega), if_neg (by omega), if_neg (by omega), if_neg (by omega), if_neg (by omega), if_neg (by omega), if_neg (by omega), if_neg (by omega), if_neg (by omega), if_neg (by omega), if_neg (by omega)]
      exact h3
/-! arguments as longs -/
theorem i64T (x : Int32) : (Int32.toInt64 x).toInt = x.toInt := Int32.toInt_toInt64 x
theorem lim_T {n : Nat} (h : n < 2 ^ 30) : (lN n - lN 1).toInt = (n : Int) - 1 := by
  rw [Int64.toInt_sub, lNT (by omega), lNT (by decide)]
  rw [Int.bmod_eq_of_le_mul_two] <;> omega
theorem in_ix {n : Nat} (hn : n < 2 ^ 30) (x : Int32) : (lN 0 ≤ Int32.toInt64 x ∧ Int32.toInt64 x ≤ lN n - lN 1) ↔ (ixO n x).isSome = true := by
  rw [Int64.le_iff_toInt_le, Int64.le_iff_toInt_le, i64T, lim_T hn, lNT (by decide)]
  unfold ixO
  have e0 : (0 : Int32).toInt = 0 := rfl
  by_cases h : 0 ≤ x ∧ x < nI n
  · rw [if_pos h]
    rw [ile, il, nT (by omega), e0] at h
    exact ⟨fun _ => rfl, fun _ => by omega⟩
  · rw [if_neg h]
    rw [ile, il, nT (by omega), e0] at h
    exact ⟨fun q => absurd (by omega) h, fun q => by cases q⟩
theorem in_rg {a b : Nat} (ha : a < 2 ^ 31) (hb : b < 2 ^ 31) (x : Int32) : (lN a ≤ Int32.toInt64 x ∧ Int32.toInt64 x ≤ lN b) ↔ (rgO a b x).isSome = true := by
  rw [Int64.le_iff_toInt_le, Int64.le_iff_toInt_le, i64T, lNT ha, lNT hb]
  unfold rgO
  by_cases h : nI a ≤ x ∧ x ≤ nI b
  · rw [if_pos h]
    rw [ile, ile, nT ha, nT hb] at h
    exact ⟨fun _ => rfl, fun _ => by omega⟩
  · rw [if_neg h]
    rw [ile, ile, nT ha, nT hb] at h
    exact ⟨fun q => absurd (by omega) h, fun q => by cases q⟩
