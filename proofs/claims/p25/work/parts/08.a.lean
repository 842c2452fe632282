/-! numbers: elements, ranges -/
theorem il (a b : Int32) : a < b ↔ a.toInt < b.toInt := Int32.lt_iff_toInt_lt
theorem ile (a b : Int32) : a ≤ b ↔ a.toInt ≤ b.toInt := Int32.le_iff_toInt_le
theorem nT {n : Nat} (h : n < 2 ^ 31) : (nI n).toInt = (n : Int) := nI_toInt h
theorem ext32 {a b : Int32} (h : a.toInt = b.toInt) : a = b := Int32.toInt_inj.mp h
theorem mx_nI {a b : Nat} (ha : a < 2 ^ 31) (hb : b < 2 ^ 31) : (if nI a < nI b then nI b else nI a) = nI (max a b) := by
  by_cases h : a < b
  · rw [if_pos ((nI_ltI ha hb).mpr h), Nat.max_eq_right (by omega)]
  · rw [if_neg (fun q => h ((nI_ltI ha hb).mp q)), Nat.max_eq_left (by omega)]
theorem clT {x : Int32} (h : 0 ≤ x.toInt) : (x.toNatClampNeg : Int) = x.toInt := by
  show ((x.toInt.toNat : Nat) : Int) = x.toInt
  omega
theorem vp_lt {x : Int32} {n : Nat} (h0 : ¬ x < 0) (h : x < nI n) (hn : n < 2 ^ 31) : vp_in x n := by
  rw [vp_in_iff]
  rw [il, nT hn] at h
  rw [il] at h0
  have e : (0 : Int32).toInt = 0 := rfl
  omega
def el (n : Nat) (f : Nat → Int32) (x : Int32) : Int32 := if x < 0 ∨ nI n ≤ x then 0 else f x.toNatClampNeg
def stE (c : CF) (r n : Nat) (x v : Int32) : CF := if x < 0 ∨ nI n ≤ x then c else up c r x.toNatClampNeg v
theorem nI_nn {i : Nat} (hi : i < 2 ^ 31) : ¬ nI i < 0 := nI_pos hi
theorem el_lt {n : Nat} {f : Nat → Int32} {i : Nat} (h : i < n) (hn : n < 2 ^ 31) : el n f (nI i) = f i := by
  unfold el
  rw [if_neg, nI_clamp (by omega)]
  rintro (q | q)
  · exact nI_pos (by omega) q
  · exact nI_ge h hn q
theorem el_ge {n : Nat} {f : Nat → Int32} {i : Nat} (h : n ≤ i) (hi : i < 2 ^ 31) : el n f (nI i) = 0 := by
  unfold el
  rw [if_pos (Or.inr (nI_le h hi))]
theorem stE_lt {c : CF} {r n i : Nat} {v : Int32} (h : i < n) (hn : n < 2 ^ 31) : stE c r n (nI i) v = up c r i v := by
  unfold stE
  rw [if_neg, nI_clamp (by omega)]
  rintro (q | q)
  · exact nI_pos (by omega) q
  · exact nI_ge h hn q
/-- an argument as a line of n, as a number from a to b -/
def ixO (n : Nat) (x : Int32) : Option Nat := if 0 ≤ x ∧ x < nI n then some x.toNatClampNeg else none
def rgO (a b : Nat) (x : Int32) : Option Nat := if nI a ≤ x ∧ x ≤ nI b then some x.toNatClampNeg else none
theorem ixO_none {n : Nat} {x : Int32} (h : ¬ (0 ≤ x ∧ x < nI n)) : ixO n x = none := if_neg h
theorem x_nI {x : Int32} (h : ¬ x < 0) : x = nI x.toNatClampNeg := by
  apply ext32
  have h2 : 0 ≤ x.toInt := by
    rw [il] at h
    have e : (0 : Int32).toInt = 0 := rfl
    omega
  have h3 := clT h2
  have h4 := x.toInt_lt
  rw [nT (by omega)]
  omega
theorem ixO_some {n : Nat} (hn : n < 2 ^ 31) {x : Int32} (h : 0 ≤ x ∧ x < nI n) : ∃ j, j < n ∧ x = nI j ∧ ixO n x = some j := by
  have h0 : ¬ x < 0 := by
    have h1 := h.1
    rw [ile] at h1
    rw [il]
    omega
  have hx := x_nI h0
  have h2 := h.2
  refine ⟨x.toNatClampNeg, ?_, hx, if_pos h⟩
  have h3 : (x.toNatClampNeg : Int) = x.toInt := clT (by rw [il] at h0; have e : (0 : Int32).toInt = 0 := rfl; omega)
  rw [il, nT hn] at h2
  omega
theorem ixO_cases (n : Nat) (x : Int32) (hn : n < 2 ^ 31) : ixO n x = none ∨ ∃ j, j < n ∧ x = nI j ∧ ixO n x = some j := by
  by_cases h : 0 ≤ x ∧ x < nI n
  · exact Or.inr (ixO_some hn h)
  · exact Or.inl (ixO_none h)
theorem rgO_none {a b : Nat} {x : Int32} (h : ¬ (nI a ≤ x ∧ x ≤ nI b)) : rgO a b x = none := if_neg h
theorem rgO_some {a b : Nat} (ha : a < 2 ^ 31) (hb : b < 2 ^ 31) {x : Int32} (h : nI a ≤ x ∧ x ≤ nI b) : ∃ j, a ≤ j ∧ j ≤ b ∧ x = nI j ∧ rgO a b x = some j := by
  have h1 := h.1
  have h2 := h.2
  rw [ile, nT ha] at h1
  rw [ile, nT hb] at h2
  have h0 : ¬ x < 0 := by
    rw [il]
    have e : (0 : Int32).toInt = 0 := rfl
    omega
  have h3 : (x.toNatClampNeg : Int) = x.toInt := clT (by omega)
  exact ⟨x.toNatClampNeg, by omega, by omega, x_nI h0, if_pos h⟩
theorem rgO_cases (a b : Nat) (x : Int32) (ha : a < 2 ^ 31) (hb : b < 2 ^ 31) : rgO a b x = none ∨ ∃ j, a ≤ j ∧ j ≤ b ∧ x = nI j ∧ rgO a b x = some j := by
  by_cases h : nI a ≤ x ∧ x ≤ nI b
  · exact Or.inr (rgO_some ha hb h)
  · exact Or.inl (rgO_none h)
def bI (b : Bool) : Int32 := if b then 1 else 0
theorem nle_lt {x y : Int32} (h : x < y) : ¬ y ≤ x := by rw [ile]; rw [il] at h; omega
theorem nlt_le {x y : Int32} (h : ¬ x < y) : y ≤ x := by rw [ile]; rw [il] at h; omega
theorem nle_lt' {x y : Int32} (h : ¬ x ≤ y) : y < x := by rw [il]; rw [ile] at h; omega
theorem nlt_of {x y : Int32} (h : x ≤ y) : ¬ y < x := by rw [il]; rw [ile] at h; omega
theorem narrow_b {r : Int32} (h : r = 0 ∨ r = 1) : narrow .boolean (.int r) = .int r := by rcases h with rfl | rfl <;> rfl
