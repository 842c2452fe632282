/-! the streams: registers, bits, words of 64 ticks -/
def nr (r : Nat) : Nat := if 2 * r < 256 then 2 * r else (2 * r - 256) ^^^ 29
def reg (z : Nat) : Nat → Nat
  | 0 => z
  | t + 1 => nr (reg z t)
theorem nr_lt {r : Nat} (h : r < 256) : nr r < 256 := by
  unfold nr
  split
  · omega
  · exact Nat.xor_lt_two_pow (n := 8) (by omega) (by decide)
theorem reg_lt {z : Nat} (h : z < 256) : ∀ t, reg z t < 256
  | 0 => h
  | t + 1 => nr_lt (reg_lt h t)
theorem nI_xor (a b : Nat) : nI a ^^^ nI b = nI (a ^^^ b) := by
  apply Int32.toBitVec_inj.mp
  show (nI a).toBitVec ^^^ (nI b).toBitVec = (nI (a ^^^ b)).toBitVec
  apply BitVec.eq_of_getLsbD_eq
  intro i hi
  show ((BitVec.ofNat 32 a) ^^^ (BitVec.ofNat 32 b)).getLsbD i = (BitVec.ofNat 32 (a ^^^ b)).getLsbD i
  simp [hi]
/-- a line's bit at a tick out of those of the lines ahead -/
def bStep (q : Ln) (B : Nat → Nat → Bool) (t : Nat) : Bool :=
  if q.1 = 0 then decide (reg q.2.2.1 t ≤ q.2.1)
  else if q.1 = 1 then B q.2.1 t && B q.2.2.1 t
  else if q.1 = 2 then B q.2.1 t || B q.2.2.1 t
  else if q.1 = 3 then B q.2.1 t ^^ B q.2.2.1 t
  else if q.1 = 4 then (if B q.2.2.2 t = true then B q.2.1 t else B q.2.2.1 t)
  else if q.1 = 5 then !B q.2.1 t
  else if t < q.2.2.1 then false else B q.2.1 (t - q.2.2.1)
def bTab (f : Nat → Ln) : Nat → Nat → Nat → Bool
  | 0 => fun _ _ => false
  | j + 1 => fun i t => if i = j then bStep (f j) (bTab f j) t else bTab f j i t
def bt (f : Nat → Ln) (j t : Nat) : Bool := bTab f (j + 1) j t
theorem bTab_eq (f : Nat → Ln) (t : Nat) : ∀ (j i : Nat), i < j → bTab f j i t = bt f i t
  | 0, i, h => absurd h (Nat.not_lt_zero i)
  | j + 1, i, h => by
    by_cases e : i = j
    · subst e
      rfl
    · show (if i = j then bStep (f j) (bTab f j) t else bTab f j i t) = _
      rw [if_neg e]
      exact bTab_eq f t j i (by omega)
theorem bStep_cong {q : Ln} {B B' : Nat → Nat → Bool} {j t : Nat} (hq : LnOk j q) (h : ∀ i, i < j → ∀ t, B i t = B' i t) : bStep q B t = bStep q B' t := by
  obtain ⟨h1, h2, h3, h4, h5, -⟩ := hq
  unfold bStep
  by_cases k0 : q.1 = 0
  · rw [if_pos k0, if_pos k0]
  · have ha := h q.2.1 (h3 (by omega))
    rw [if_neg k0, if_neg k0]
    by_cases k4 : q.1 ≤ 4
    · have hb := h q.2.2.1 (h4 (by omega) k4)
      by_cases k5 : q.1 = 4
      · have hc := h q.2.2.2 (h5 k5)
        simp only [ha, hb, hc]
      · simp only [ha, hb, if_neg k5]
    · simp only [ha, if_neg (show ¬ q.1 = 1 by omega), if_neg (show ¬ q.1 = 2 by omega), if_neg (show ¬ q.1 = 3 by omega), if_neg (show ¬ q.1 = 4 by omega)]
theorem bt_eq {f : Nat → Ln} {j : Nat} (hq : LnOk j (f j)) (t : Nat) : bt f j t = bStep (f j) (bt f) t := by
  show (if j = j then bStep (f j) (bTab f j) t else bTab f j j t) = _
  rw [if_pos rfl]
  exact bStep_cong hq (fun i hi t => bTab_eq f t j i hi)
/-- the bits depend on the lines up to it -/
theorem bTab_cong {f f' : Nat → Ln} : ∀ (j i : Nat), (∀ k, k < j → f k = f' k) → i < j → ∀ t, bTab f j i t = bTab f' j i t
  | 0, i, _, h, _ => absurd h (Nat.not_lt_zero i)
  | j + 1, i, he, h, t => by
    show (if i = j then bStep (f j) (bTab f j) t else bTab f j i t) = (if i = j then bStep (f' j) (bTab f' j) t else bTab f' j i t)
    have h0 : bTab f j = bTab f' j := by
      funext a b
      by_cases ha : a < j
      · exact bTab_cong j a (fun k hk => he k (by omega)) ha b
      · have z : ∀ (g : Nat → Ln) (j : Nat), ¬ a < j → bTab g j a b = false := by
          intro g j
          induction j with
          | zero => intro _; rfl
          | succ j ih => intro hh; show (if a = j then _ else bTab g j a b) = false; rw [if_neg (by omega)]; exact ih (by omega)
        rw [z f j ha, z f' j ha]
    rw [he j (by omega), h0]
theorem bt_cong {f f' : Nat → Ln} {j : Nat} (h : ∀ k, k ≤ j → f k = f' k) (t : Nat) : bt f j t = bt f' j t := bTab_cong (j + 1) j (fun k hk => h k (by omega)) (by omega) t
/-- bit t of a long -/
def lb (x : Int64) (t : Nat) : Bool := x.toBitVec.getLsbD t
/-- a row of words holds the bits of a line over so many words -/
def RowG (g : GF) (f : Nat → Ln) (j w : Nat) : Prop := ∀ v, v < w → ∀ t, t < 64 → lb (g j v) t = bt f j (64 * v + t)
theorem lb_and (x y : Int64) (t : Nat) : lb (x &&& y) t = (lb x t && lb y t) := by simp [lb]
theorem lb_or (x y : Int64) (t : Nat) : lb (x ||| y) t = (lb x t || lb y t) := by simp [lb]
theorem lb_xor (x y : Int64) (t : Nat) : lb (x ^^^ y) t = (lb x t ^^ lb y t) := by simp [lb]
theorem lb_m1 {t : Nat} (h : t < 64) : lb (lN 18446744073709551615) t = true := by
  have : ∀ t, t < 64 → lb (lN 18446744073709551615) t = true := by decide
  exact this t h
theorem lb_0 (t : Nat) : lb (lN 0) t = false := by
  show (BitVec.ofNat 64 0).getLsbD t = false
  simp
theorem sh_c : ∀ k, k < 64 → ((Int32.toInt64 (nI k) &&& 63).toBitVec.smod 64).toNat = k := by decide
theorem sh_u : ∀ k, k < 64 → (((Int32.toInt64 (nI k)).toUInt64 &&& Int64.toUInt64 63).toBitVec % 64).toNat = k := by decide
theorem lb_shl (x : Int64) {k t : Nat} (hk : k < 64) (ht : t < 64) : lb (x <<< (Int32.toInt64 (nI k) &&& 63)) t = (decide (k ≤ t) && lb x (t - k)) := by
  show (x.toBitVec <<< ((Int32.toInt64 (nI k) &&& 63).toBitVec.smod 64)).getLsbD t = _
  rw [BitVec.shiftLeft_eq', sh_c k hk, BitVec.getLsbD_shiftLeft]
  by_cases h : k ≤ t
  · simp [ht, h, Nat.not_lt.mpr h, lb]
  · simp [ht, h, Nat.lt_of_not_le h]
theorem lb_ushr (x : Int64) {k t : Nat} (hk : k < 64) : lb ((Int64.toUInt64 x >>> ((Int32.toInt64 (nI k)).toUInt64 &&& Int64.toUInt64 63)).toInt64) t = lb x (k + t) := by
  show ((x.toUInt64 >>> ((Int32.toInt64 (nI k)).toUInt64 &&& Int64.toUInt64 63)).toBitVec).getLsbD t = _
  rw [UInt64.toBitVec_shiftRight, BitVec.ushiftRight_eq', sh_u k hk, BitVec.getLsbD_ushiftRight]
  rfl
theorem lb_one {t : Nat} (h : t < 64) : lb (lN 1) t = decide (t = 0) := by
  have : ∀ t, t < 64 → lb (lN 1) t = decide (t = 0) := by decide
  exact this t h
def wdE (g : GF) (i : Nat) (x : Int32) : Int64 := if i < 16 then (if x < 0 ∨ nI 16 ≤ x then lN 0 else g i x.toNatClampNeg) else lN 0
theorem wdE_in {g : GF} {i v : Nat} (hi : i < 16) (hv : v < 16) : wdE g i (nI v) = g i v := by
  unfold wdE
  rw [if_pos hi, if_neg, nI_clamp (by omega)]
  rintro (q | q)
  · exact nI_pos (by omega) q
  · exact nI_ge hv (by decide) q
theorem wdE_m1 {g : GF} {i : Nat} (hi : i < 16) : wdE g i (-1) = lN 0 := by
  unfold wdE
  rw [if_pos hi, if_pos (Or.inl (by decide))]
theorem lb_big (x : Int64) {t : Nat} (h : 64 ≤ t) : lb x t = false := BitVec.getLsbD_of_ge _ _ h
theorem bt_0 {f : Nat → Ln} {j t : Nat} (hq : LnOk j (f j)) (h : (f j).1 = 0) : bt f j t = decide (reg (f j).2.2.1 t ≤ (f j).2.1) := by rw [bt_eq hq]; simp [bStep, h]
theorem bt_1 {f : Nat → Ln} {j t : Nat} (hq : LnOk j (f j)) (h : (f j).1 = 1) : bt f j t = (bt f (f j).2.1 t && bt f (f j).2.2.1 t) := by rw [bt_eq hq]; simp [bStep, h]
theorem bt_2 {f : Nat → Ln} {j t : Nat} (hq : LnOk j (f j)) (h : (f j).1 = 2) : bt f j t = (bt f (f j).2.1 t || bt f (f j).2.2.1 t) := by rw [bt_eq hq]; simp [bStep, h]
theorem bt_3 {f : Nat → Ln} {j t : Nat} (hq : LnOk j (f j)) (h : (f j).1 = 3) : bt f j t = (bt f (f j).2.1 t ^^ bt f (f j).2.2.1 t) := by rw [bt_eq hq]; simp [bStep, h]
theorem bt_4 {f : Nat → Ln} {j t : Nat} (hq : LnOk j (f j)) (h : (f j).1 = 4) : bt f j t = (if bt f (f j).2.2.2 t = true then bt f (f j).2.1 t else bt f (f j).2.2.1 t) := by rw [bt_eq hq]; simp [bStep, h]
theorem bt_5 {f : Nat → Ln} {j t : Nat} (hq : LnOk j (f j)) (h : (f j).1 = 5) : bt f j t = !bt f (f j).2.1 t := by rw [bt_eq hq]; simp [bStep, h]
theorem bt_6 {f : Nat → Ln} {j t : Nat} (hq : LnOk j (f j)) (h : (f j).1 = 6) : bt f j t = (if t < (f j).2.2.1 then false else bt f (f j).2.1 (t - (f j).2.2.1)) := by rw [bt_eq hq]; simp [bStep, h]
theorem mw_6 {f : Nat → Ln} {j v d t : Nat} {x y : Int64} (hq : LnOk j (f j)) (h : (f j).1 = 6) (hd : (f j).2.2.1 = d) (h1 : 1 ≤ d) (h60 : d ≤ 60) (ht : t < 64) (hx : ∀ t, t < 64 → lb x t = bt f (f j).2.1 (64 * v + t)) (hy : v = 0 → y = lN 0) (hy2 : ∀ w, v = w + 1 → ∀ t, t < 64 → lb y t = bt f (f j).2.1 (64 * w + t)) : lb (x <<< (Int32.toInt64 (nI d) &&& 63) ||| (Int64.toUInt64 y >>> ((Int32.toInt64 (nI (64 - d))).toUInt64 &&& Int64.toUInt64 63)).toInt64) t = bt f j (64 * v + t) := by
  rw [lb_or, lb_shl x (by omega) ht, lb_ushr y (by omega), bt_6 hq h, hd]
  by_cases e : d ≤ t
  · rw [if_neg (by omega), lb_big y (by omega), hx _ (by omega), decide_eq_true e, Bool.true_and, Bool.or_false]
    congr 1
    omega
  · rw [decide_eq_false e, Bool.false_and, Bool.false_or]
    cases v with
    | zero => rw [hy rfl, lb_0, if_pos (by omega)]
    | succ w =>
      rw [hy2 w rfl _ (by omega), if_neg (by omega)]
      congr 1
      omega
/-- the rows of a source -/
def SrcG (g : GF) (j sh sd w : Nat) : Prop := ∀ v, v < w → ∀ t, t < 64 → lb (g j v) t = decide (reg sd (64 * v + t) ≤ sh)
def SrcX (x : Int64) (v sh sd k : Nat) : Prop := (∀ t, t < k → lb x t = decide (reg sd (64 * v + t) ≤ sh)) ∧ ∀ t, k ≤ t → t < 64 → lb x t = false
theorem SrcX.set {x : Int64} {v sh sd k : Nat} (h : SrcX x v sh sd k) (hk : k < 64) (hr : reg sd (64 * v + k) ≤ sh) : SrcX (x ||| (lN 1 <<< (Int32.toInt64 (nI k) &&& 63))) v sh sd (k + 1) := by
  refine ⟨fun t ht => ?_, fun t h1 h2 => ?_⟩
  · rw [lb_or, lb_shl _ hk (by omega), lb_one (by omega)]
    by_cases e : t = k
    · subst e
      rw [h.2 t (Nat.le_refl _) hk, decide_eq_true hr]
      simp
    · rw [h.1 t (by omega), decide_eq_false (show ¬ k ≤ t by omega)]
      simp
  · rw [lb_or, lb_shl _ hk h2, lb_one (by omega), h.2 t (by omega) h2, decide_eq_false (show ¬ t - k = 0 by omega)]
    simp
theorem SrcX.skip {x : Int64} {v sh sd k : Nat} (h : SrcX x v sh sd k) (hk : k < 64) (hr : ¬ reg sd (64 * v + k) ≤ sh) : SrcX x v sh sd (k + 1) := by
  refine ⟨fun t ht => ?_, fun t h1 h2 => h.2 t (by omega) h2⟩
  by_cases e : t = k
  · subst e
    rw [h.2 t (Nat.le_refl _) hk, decide_eq_false hr]
  · exact h.1 t (by omega)
theorem SrcX.start (v sh sd : Nat) : SrcX (lN 0) v sh sd 0 := ⟨fun t h => absurd h (Nat.not_lt_zero t), fun t _ _ => lb_0 t⟩
def OthG (j : Nat) (g0 g : GF) : Prop := ∀ i, i ≠ j → ∀ v, g i v = g0 i v
theorem SrcG.step {g0 g g1 : GF} {j sh sd w : Nat} {x : Int64} (h : SrcG g j sh sd w) (ho : OthG j g0 g) (hx : SrcX x w sh sd 64) (e : g1 = upG g j w x) : SrcG g1 j sh sd (w + 1) ∧ OthG j g0 g1 := by
  subst e
  refine ⟨fun v hv t ht => ?_, fun i hi v => ?_⟩
  · rw [upG_at]
    by_cases ev : v = w
    · subst ev
      rw [if_pos ⟨rfl, rfl⟩]
      exact hx.1 t ht
    · rw [if_neg (fun q => ev q.2)]
      exact h v (by omega) t ht
  · rw [upG_at, if_neg (fun q => hi q.1)]
    exact ho i hi v
theorem RowG.keep {g g1 : GF} {f : Nat → Ln} {i j w : Nat} (h : RowG g f i w) (ho : OthG j g g1) (hi : i ≠ j) : RowG g1 f i w := fun v hv t ht => by rw [ho i hi v]; exact h v hv t ht
theorem RowG.less {g : GF} {f : Nat → Ln} {i w w' : Nat} (h : RowG g f i w) (hw : w' ≤ w) : RowG g f i w' := fun v hv t ht => h v (by omega) t ht
theorem RowG.step {g0 g g1 : GF} {f : Nat → Ln} {j w : Nat} {x : Int64} (h : RowG g f j w) (ho : OthG j g0 g) (hx : ∀ t, t < 64 → lb x t = bt f j (64 * w + t)) (e : g1 = upG g j w x) : RowG g1 f j (w + 1) ∧ OthG j g0 g1 := by
  subst e
  refine ⟨fun v hv t ht => ?_, fun i hi v => ?_⟩
  · rw [upG_at]
    by_cases ev : v = w
    · subst ev
      rw [if_pos ⟨rfl, rfl⟩]
      exact hx t ht
    · rw [if_neg (fun q => ev q.2)]
      exact h v (by omega) t ht
  · rw [upG_at, if_neg (fun q => hi q.1)]
    exact ho i hi v
theorem la_T {k : Nat} (h2 : k < 2 ^ 30) : (nI k - 1).toInt = (k : Int) - 1 := pk_sub_toInt (b := 1) h2 (by decide)
theorem la_lt {la : Int32} {k i : Nat} (h : la = nI k - 1) (hk : k < 2 ^ 30) (hi : i < 2 ^ 30) (hq : ¬ la < nI i) : i < k := by
  rw [il, h, la_T hk, nT (by omega)] at hq
  omega
theorem la_ge {la : Int32} {k i : Nat} (h : la = nI k - 1) (hk : k < 2 ^ 30) (hi : i < 2 ^ 30) (hq : la < nI i) : k ≤ i := by
  rw [il, h, la_T hk, nT (by omega)] at hq
  omega
