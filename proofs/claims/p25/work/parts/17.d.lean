def bN (b : Bool) : Nat := if b then 1 else 0
/-- bit of a row at a tick -/
def gb (g : GF) (i t : Nat) : Bool := lb (g i (t / 64)) (t % 64)
theorem rowG_gb {g : GF} {f : Nat → Ln} {j w t : Nat} (h : RowG g f j w) (ht : t < 64 * w) : gb g j t = bt f j t := by
  unfold gb
  rw [h (t / 64) (by omega) (t % 64) (by omega), Nat.div_add_mod]
theorem bitAt_eq (x : Int64) {k : Nat} (hk : k < 64) : Int64.toInt32 ((Int64.toUInt64 x >>> ((Int32.toInt64 (nI k)).toUInt64 &&& Int64.toUInt64 63)).toInt64) &&& nI 1 = nI (bN (lb x k)) := by
  have h := lb_ushr x (t := 0) hk
  generalize (Int64.toUInt64 x >>> ((Int32.toInt64 (nI k)).toUInt64 &&& Int64.toUInt64 63)).toInt64 = y at h ⊢
  rw [Nat.add_zero] at h
  rw [← h]
  apply Int32.toBitVec_inj.mp
  apply BitVec.eq_of_getLsbD_eq
  intro i hi
  have e1 : (Int64.toInt32 y &&& nI 1).toBitVec.getLsbD i = (decide (i < 32) && y.toBitVec.getLsbD i && (BitVec.ofNat 32 1).getLsbD i) := by
    show ((y.toBitVec.signExtend 32) &&& BitVec.ofNat 32 1).getLsbD i = _
    rw [BitVec.getLsbD_and, BitVec.getLsbD_signExtend]
    simp [hi, show i < 64 from by omega]
  rw [e1, decide_eq_true hi, Bool.true_and]
  have e2 : (BitVec.ofNat 32 1).getLsbD i = decide (i = 0) := by
    have : ∀ i, i < 32 → (BitVec.ofNat 32 1).getLsbD i = decide (i = 0) := by decide
    exact this i hi
  rw [e2]
  by_cases h0 : i = 0
  · subst h0
    show (lb y 0 && decide (0 = 0)) = (BitVec.ofNat 32 (bN (lb y 0))).getLsbD 0
    cases lb y 0 <;> decide
  · rw [decide_eq_false h0, Bool.and_false]
    show false = (BitVec.ofNat 32 (bN (lb y 0))).getLsbD i
    cases lb y 0
    · show false = (BitVec.ofNat 32 0).getLsbD i
      simp
    · show false = (BitVec.ofNat 32 1).getLsbD i
      rw [e2, decide_eq_false h0]
/-- a mask of the lowest k bits -/
theorem lb_rest {k t : Nat} (hk : k < 64) (ht : t < 64) : lb (lN 1 <<< (Int32.toInt64 (nI k) &&& 63) - lN 1) t = decide (t < k) := by
  have h : ∀ k, k < 64 → lN 1 <<< (Int32.toInt64 (nI k) &&& 63) - lN 1 = lN (2 ^ k - 1) := by decide +kernel
  rw [h k hk, lb_lN t ht, Nat.testBit_two_pow_sub_one]
theorem popc_rest {x y : Int64} {k : Nat} (hk : k < 64) : popc ((x &&& y) &&& (lN 1 <<< (Int32.toInt64 (nI k) &&& 63) - lN 1)) = fb_ct (fun t => lb x t && lb y t) k := by
  unfold popc
  have e : (64 : Nat) = k + (64 - k) := by omega
  have h1 : fb_ct (fun t => lb ((x &&& y) &&& (lN 1 <<< (Int32.toInt64 (nI k) &&& 63) - lN 1)) t) 64 = fb_ct (fun t => (lb x t && lb y t) && decide (t < k)) 64 := fb_ct_cong fun t ht => by rw [lb_and, lb_and, lb_rest hk ht]
  rw [h1, e, fb_ct_split]
  have h2 : fb_ct (fun t => (lb x (k + t) && lb y (k + t)) && decide (k + t < k)) (64 - k) = 0 := fb_ct_zero.mpr fun t _ => by rw [decide_eq_false (by omega), Bool.and_false]
  rw [h2, Nat.add_zero]
  exact fb_ct_cong fun t ht => by rw [decide_eq_true ht, Bool.and_true]
theorem popc_and (x y : Int64) : popc (x &&& y) = fb_ct (fun t => lb x t && lb y t) 64 := fb_ct_cong fun t _ => lb_and x y t
theorem ones_step (g : GF) (a b w : Nat) : fb_ct (fun t => gb g a t && gb g b t) (64 * (w + 1)) = fb_ct (fun t => gb g a t && gb g b t) (64 * w) + popc (g a w &&& g b w) := by
  rw [show 64 * (w + 1) = 64 * w + 64 from rfl, fb_ct_split, popc_and]
  congr 1
  refine fb_ct_cong fun t ht => ?_
  unfold gb
  rw [show (64 * w + t) / 64 = w from by omega, show (64 * w + t) % 64 = t from by omega]
theorem ones_end (g : GF) (a b tk : Nat) : fb_ct (fun t => gb g a t && gb g b t) tk = fb_ct (fun t => gb g a t && gb g b t) (64 * (tk / 64)) + popc ((g a (tk / 64) &&& g b (tk / 64)) &&& (lN 1 <<< (Int32.toInt64 (nI (tk % 64)) &&& 63) - lN 1)) := by
  rw [popc_rest (Nat.mod_lt _ (by decide))]
  have e : tk = 64 * (tk / 64) + tk % 64 := (Nat.div_add_mod _ _).symm
  have h := fb_ct_split (fun t => gb g a t && gb g b t) (64 * (tk / 64)) (tk % 64)
  rw [← e] at h
  rw [h]
  congr 1
  refine fb_ct_cong fun t ht => ?_
  have ht2 : t < 64 := Nat.lt_trans ht (Nat.mod_lt _ (by decide))
  unfold gb
  rw [show (64 * (tk / 64) + t) / 64 = tk / 64 from by omega, show (64 * (tk / 64) + t) % 64 = t from by omega]
