def FaultP (z : Tx) (c0 : CF) (r : Int32) (c : CF) : Prop := RdO c0 c ∧ (((rdT z).1 = none ∧ r = NON ∧ c 40 4 = nI (rdT z).2.1 ∧ ∀ j, j < (rdT z).2.1 → LnM c 49 (4 * j) ((rdT z).2.2 j)) ∨ ∃ p, (rdT z).1 = some p ∧ r = nI p)
theorem nI_NON {n : Nat} (h : n < 2 ^ 31) : ¬ nI n = (-100000005 : Int32) := by
  intro q
  have h1 := nT h
  rw [q] at h1
  have h2 : (-100000005 : Int32).toInt = -100000005 := rfl
  omega
theorem reads_next {c c1 : CF} {i : Nat} {g : Nat → Ln} {q : Ln} (h : ∀ j, j < i → LnM c 49 (4 * j) (g j)) (hk : ∀ k, k < 4 * i → c1 49 k = c 49 k) (hq : LnM c1 49 (4 * i) q) : ∀ j, j < i + 1 → LnM c1 49 (4 * j) (if j = i then q else g j) := by
  intro j hj
  by_cases e : j = i
  · rw [if_pos e, e]
    exact hq
  · rw [if_neg e]
    exact (h j (by omega)).keep fun k _ h2 => hk k (by omega)
theorem LnM.nth {c : CF} {r p w : Nat} {q : Ln} (h : LnM c r p q) (hw : w < npK q.1) (h3 : w < 3) : c r (p + (w + 1)) = nI (nthN q w) := by
  have h4 : c r (p + (w + 1)) = wM q (w + 1) := by
    rcases (show w = 0 ∨ w = 1 ∨ w = 2 by omega) with rfl | rfl | rfl
    · exact h.2.1
    · exact h.2.2.1
    · exact h.2.2.2
  rw [h4]
  exact if_neg (by omega)
theorem ahB_end (g : Nat → Ln) (n k : Nat) : ahB g n k (nlK (g k).1) = if ahd n g k then 1 else 0 := by
  have h := ahB_iff g n k (nlK (g k).1)
  by_cases e : ahd n g k
  · rw [if_pos e]
    exact h.1.mpr ((ahd_iff n g k).mp e)
  · rw [if_neg e]
    have : ¬ ahB g n k (nlK (g k).1) = 1 := fun q => e ((ahd_iff n g k).mpr (h.1.mp q))
    omega
def appF (z : Sg) (g : Nat → Ln) : Nat → Ln := fun j => if j < z.1 then z.2.2 j else g (j - z.1)
theorem app_row {c c1 : CF} {z : Sg} {g : Nat → Ln} {j : Nat} (h : RowM c 41 0 (z.1 + j, z.2.1, appF z g)) (e : c1 = putC (z.1 + j) (nI (g j).1) (wM (g j) 1) (wM (g j) 2) (wM (g j) 3) c) : RowM c1 41 0 (z.1 + (j + 1), z.2.1, appF z g) := by
  subst e
  have h9 := putC_row (q := g j) h
  have e9 : (fun t => if t = z.1 + j then g j else appF z g t) = appF z g := by
    funext t
    unfold appF
    by_cases q : t = z.1 + j
    · rw [if_pos q, if_neg (by omega), show t - z.1 = j from by omega]
    · rw [if_neg q]
  have h8 : RowM (putC (z.1 + j) (nI (g j).1) (wM (g j) 1) (wM (g j) 2) (wM (g j) 3) c) 41 0 (z.1 + j + 1, z.2.1, fun t => if t = z.1 + j then g j else appF z g t) := h9
  rw [e9] at h8
  exact h8
theorem app_start {c : CF} {z : Sg} (g : Nat → Ln) (h : RowM c 41 0 z) : RowM c 41 0 (z.1 + 0, z.2.1, appF z g) := ⟨h.1, h.2.1, fun j hj => by
  have hj : j < z.1 := hj
  have e : appF z g j = z.2.2 j := if_pos hj
  show LnM c 41 (0 + 2 + 4 * j) (appF z g j)
  rw [e]
  exact h.2.2 j hj⟩
