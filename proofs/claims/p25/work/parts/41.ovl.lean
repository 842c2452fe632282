/-! the overlap, in whole numbers -/
theorem am_gm (c e : Nat) : 4 * (c * e) ≤ (c + e) * (c + e) := by
  rcases Nat.le_total c e with h | h
  · obtain ⟨k, rfl⟩ := Nat.le.dest h
    simp only [Nat.mul_add, Nat.add_mul, Nat.mul_comm k c]
    omega
  · obtain ⟨k, rfl⟩ := Nat.le.dest h
    simp only [Nat.mul_add, Nat.add_mul, Nat.mul_comm k e]
    omega
theorem quart_up {b c d t : Nat} (h1 : b ≤ c) (h2 : c ≤ d) (hd : d ≤ t) : 4 * (b * t) ≤ t * t + 4 * (c * d) := by
  obtain ⟨e, rfl⟩ := Nat.le.dest hd
  have a1 := Nat.mul_le_mul h1 (Nat.le_refl (d + e))
  have a2 := am_gm c e
  have a3 := Nat.mul_le_mul (show c + e ≤ d + e by omega) (show c + e ≤ d + e by omega)
  rw [Nat.mul_add c d e] at a1
  omega
theorem quart_dn {b c d t : Nat} (hc : c ≤ t) (hd : d ≤ t) (h : c + d ≤ b + t) : 4 * (c * d) ≤ t * t + 4 * (b * t) := by
  by_cases q : c + d ≤ t
  · have a1 := am_gm c d
    have a2 := Nat.mul_le_mul q q
    omega
  · obtain ⟨m, em⟩ : ∃ m, m = c + d - t := ⟨_, rfl⟩
    obtain ⟨p, ep⟩ : ∃ p, p = t - c := ⟨_, rfl⟩
    obtain ⟨r, er⟩ : ∃ r, r = t - d := ⟨_, rfl⟩
    have e1 : c = m + r := by omega
    have e2 : d = m + p := by omega
    have e3 : t = m + (p + r) := by omega
    have hm : m ≤ b := by omega
    have a1 := Nat.mul_le_mul hm (Nat.le_refl t)
    have a2 := am_gm p r
    have a3 := Nat.mul_le_mul (show p + r ≤ t by omega) (show p + r ≤ t by omega)
    have a4 : c * d = m * t + p * r := by
      rw [e1, e2, e3]
      simp only [Nat.mul_add, Nat.add_mul, Nat.mul_comm r m, Nat.mul_comm r p]
      omega
    omega
theorem bm64 {x : Int} (h1 : -9000000000000000000 ≤ x) (h2 : x ≤ 9000000000000000000) : x.bmod (2 ^ 64) = x := Int.bmod_eq_of_le_mul_two (by omega) (by omega)
theorem bm32 {x : Int} (h1 : -2000000000 ≤ x) (h2 : x ≤ 2000000000) : x.bmod (2 ^ 32) = x := Int.bmod_eq_of_le_mul_two (by omega) (by omega)
theorem tdiv_le {a : Int} {T k : Nat} (hT : 1 ≤ T) (h : a.natAbs ≤ k * T) : (a.tdiv (T : Int)).natAbs ≤ k := by
  rw [Int.natAbs_tdiv]
  show a.natAbs / (T : Int).natAbs ≤ k
  rw [Int.natAbs_natCast]
  exact Nat.div_le_of_le_mul (by rw [Nat.mul_comm]; exact h)
theorem ovl_int {f : Nat → Ln} {i j t : Nat} (h1 : 1 ≤ t) (h2 : t ≤ 1000) : (ovl f i j t).toInt = ((((both f i j t * t : Nat) : Int) - ((cnt f i t * cnt f j t : Nat) : Int)) * 65536).tdiv ((t * t : Nat) : Int) ∧ (ovl f i j t).toInt.natAbs ≤ 16384 := by
  have hb1 := both_le f i j t
  have hb2 : both f i j t ≤ cnt f j t := by
    rw [both_comm]
    exact both_le f j i t
  have hb3 := both_ge f i j t
  have hc := cnt_le f i t
  have hd := cnt_le f j t
  have hT1 : 1 * 1 ≤ t * t := Nat.mul_le_mul h1 h1
  have hT2 : t * t ≤ 1000 * 1000 := Nat.mul_le_mul h2 h2
  have q1 : 4 * (both f i j t * t) ≤ t * t + 4 * (cnt f i t * cnt f j t) := by
    rcases Nat.le_total (cnt f i t) (cnt f j t) with h | h
    · exact quart_up hb1 h hd
    · rw [Nat.mul_comm (cnt f i t)]
      exact quart_up hb2 h hc
  have q2 := quart_dn hc hd hb3
  have hB : both f i j t * t ≤ t * t := Nat.mul_le_mul (Nat.le_trans hb1 hc) (Nat.le_refl t)
  have hC : cnt f i t * cnt f j t ≤ t * t := Nat.mul_le_mul hc hd
  unfold ovl
  generalize both f i j t * t = B at q1 q2 hB ⊢
  generalize cnt f i t * cnt f j t = C at q1 q2 hC ⊢
  generalize t * t = T at q1 q2 hT1 hT2 hB hC ⊢
  have e1 : (lN B - lN C).toInt = (B : Int) - C := by rw [Int64.toInt_sub, lNT (by omega), lNT (by omega), bm64 (by omega) (by omega)]
  have e2 : ((lN B - lN C) * lN 65536).toInt = ((B : Int) - C) * 65536 := by
    rw [Int64.toInt_mul, e1, lNT (by omega)]
    exact bm64 (by omega) (by omega)
  have e3 : (((lN B - lN C) * lN 65536) / lN T).toInt = (((B : Int) - C) * 65536).tdiv T := by
    rw [Int64.toInt_div_of_ne_right _ _ (fun q => by
      have := congrArg Int64.toInt q
      rw [lNT (by omega)] at this
      have e0 : (-1 : Int64).toInt = -1 := rfl
      omega), e2, lNT (by omega)]
  have e4 : ((((B : Int) - C) * 65536).tdiv (T : Int)).natAbs ≤ 16384 := tdiv_le (by omega) (by omega)
  rw [Int64.toInt_toInt32, e3, bm32 (by omega) (by omega)]
  exact ⟨rfl, e4⟩
theorem ovl_comm (f : Nat → Ln) (i j t : Nat) : ovl f i j t = ovl f j i t := by
  unfold ovl
  rw [both_comm, Nat.mul_comm (cnt f i t)]
theorem ovl_bnd {f : Nat → Ln} {i j t : Nat} (h1 : 1 ≤ t) (h2 : t ≤ 1000) : ovl f i j t ≤ nI 16384 ∧ (-16384 : Int32) ≤ ovl f i j t := by
  have h := (ovl_int (f := f) (i := i) (j := j) h1 h2).2
  have e0 : (-16384 : Int32).toInt = -16384 := rfl
  rw [ile, ile, nT (by decide), e0]
  omega
theorem ovl_turn {f g : Nat → Ln} {i a b t : Nat} (h1 : 1 ≤ t) (h2 : t ≤ 1000) (ha : ∀ t, bt g a t = bt f i t) (hb : ∀ t, bt g b t = !bt f i t) : ovl f i i t = - ovl g a b t := by
  have h3 := ovl_int (f := f) (i := i) (j := i) h1 h2
  have h4 := ovl_int (f := g) (i := a) (j := b) h1 h2
  have e1 := both_self f i t
  have e2 : both g a b t = 0 := both_not (fun t => by rw [hb, ha]) t
  have e3 := cnt_same ha t
  have e4 := cnt_not hb t
  have hc := cnt_le f i t
  rw [e1] at h3
  rw [e2, e3] at h4
  apply ext32
  have e6 : (-(ovl g a b t)).toInt = -((ovl g a b t).toInt) := by rw [Int32.toInt_neg, bm32 (by omega) (by omega)]
  rw [e6, h3.1, h4.1, ← Int.neg_tdiv]
  congr 1
  obtain ⟨d, ed⟩ : ∃ d, d = cnt g b t := ⟨_, rfl⟩
  rw [← ed] at e4 ⊢
  have e7 : cnt f i t * t = cnt f i t * cnt f i t + cnt f i t * d := by rw [← Nat.mul_add, e4]
  rw [e7]
  generalize cnt f i t * cnt f i t = P
  generalize cnt f i t * d = S
  omega
