/-! how many bits are set: the JDK's way of counting them -/
theorem wb_tb (n : Nat) : (lN n).toBitVec = BitVec.ofNat 64 n := rfl
theorem wb_inj {a b : Int64} (h : a.toBitVec = b.toBitVec) : a = b := Int64.toBitVec_inj.mp h
theorem wb_tn {n : Nat} (h : n < 2 ^ 64) : (lN n).toBitVec.toNat = n := by rw [wb_tb, BitVec.toNat_ofNat, Nat.mod_eq_of_lt h]
theorem wb_of (x : Int64) : ∃ n, n < 2 ^ 64 ∧ x = lN n := ⟨x.toBitVec.toNat, x.toBitVec.isLt, wb_inj (by rw [wb_tb]; simp)⟩
theorem wb_of32 (x : Int32) : ∃ n, n < 2 ^ 32 ∧ x = nI n := ⟨x.toBitVec.toNat, x.toBitVec.isLt, Int32.toBitVec_inj.mp (by show _ = BitVec.ofNat 32 _; simp)⟩
theorem wb_cu : ∀ k, k < 64 → ((nI k).toInt64.toUInt64 &&& Int64.toUInt64 63) = UInt64.ofNat k := by decide +kernel
theorem wb_shr {n k : Nat} (hn : n < 2 ^ 64) (hk : k < 64) : ((lN n).toUInt64 >>> ((nI k).toInt64.toUInt64 &&& Int64.toUInt64 63)).toInt64 = lN (n / 2 ^ k) := by
  rw [wb_cu k hk]
  apply wb_inj
  apply BitVec.eq_of_toNat_eq
  show ((lN n).toUInt64 >>> UInt64.ofNat k).toNat = (BitVec.ofNat 64 _).toNat
  have h1 : (UInt64.ofNat k).toNat = k := by
    show (BitVec.ofNat 64 k).toNat = k
    rw [BitVec.toNat_ofNat, Nat.mod_eq_of_lt (by omega)]
  have h2 : (lN n).toUInt64.toNat = n := wb_tn hn
  rw [UInt64.toNat_shiftRight, h1, h2, Nat.mod_eq_of_lt hk, Nat.shiftRight_eq_div_pow, BitVec.toNat_ofNat, Nat.mod_eq_of_lt (Nat.lt_of_le_of_lt (Nat.div_le_self _ _) hn)]
theorem lN_and (a b : Nat) : lN a &&& lN b = lN (a &&& b) := by
  apply wb_inj
  apply BitVec.eq_of_getLsbD_eq
  intro i hi
  show ((BitVec.ofNat 64 a) &&& (BitVec.ofNat 64 b)).getLsbD i = (BitVec.ofNat 64 (a &&& b)).getLsbD i
  simp [hi]
theorem nI_and (a b : Nat) : nI a &&& nI b = nI (a &&& b) := by
  apply Int32.toBitVec_inj.mp
  apply BitVec.eq_of_getLsbD_eq
  intro i hi
  show ((BitVec.ofNat 32 a) &&& (BitVec.ofNat 32 b)).getLsbD i = (BitVec.ofNat 32 (a &&& b)).getLsbD i
  simp [hi]
theorem nI_or (a b : Nat) : nI a ||| nI b = nI (a ||| b) := by
  apply Int32.toBitVec_inj.mp
  apply BitVec.eq_of_getLsbD_eq
  intro i hi
  show ((BitVec.ofNat 32 a) ||| (BitVec.ofNat 32 b)).getLsbD i = (BitVec.ofNat 32 (a ||| b)).getLsbD i
  simp [hi]
/-- a mask of n equal bytes -/
def mm (v : Nat) : Nat → Nat
  | 0 => 0
  | n + 1 => 2 ^ 8 * mm v n + v
theorem tb2 (Z y j : Nat) (h : y < 2 ^ 8) : (2 ^ 8 * Z + y).testBit j = if j < 8 then y.testBit j else Z.testBit (j - 8) := Nat.testBit_two_pow_mul_add Z h j
theorem pick_s {y Z v M t : Nat} (hy : y < 2 ^ 8) (hv : v < 2 ^ 8) (ht : t ≤ 8) (hvs : v < 2 ^ (8 - t)) : ((2 ^ 8 * Z + y) / 2 ^ t) &&& (2 ^ 8 * M + v) = 2 ^ 8 * ((Z / 2 ^ t) &&& M) + ((y / 2 ^ t) &&& v) := by
  apply Nat.eq_of_testBit_eq
  intro i
  have hlt : (y / 2 ^ t) &&& v < 2 ^ 8 := Nat.lt_of_le_of_lt Nat.and_le_right hv
  rw [Nat.testBit_and, Nat.testBit_div_two_pow, tb2 _ _ _ hy, tb2 _ _ _ hv, tb2 _ _ _ hlt, Nat.testBit_and, Nat.testBit_div_two_pow, Nat.testBit_and, Nat.testBit_div_two_pow]
  by_cases h8 : i < 8
  · rw [if_pos h8, if_pos h8]
    by_cases h2 : i + t < 8
    · rw [if_pos h2]
    · have hz : v.testBit i = false := Nat.testBit_lt_two_pow (Nat.lt_of_lt_of_le hvs (Nat.pow_le_pow_right (by decide) (by omega)))
      rw [hz, Bool.and_false, Bool.and_false]
  · rw [if_neg h8, if_neg h8, if_neg (by omega)]
    congr 2
    omega
def g1 (y : Nat) : Nat := y - ((y / 2 ^ 1) &&& 85)
def g2 (y : Nat) : Nat := ((y / 2 ^ 0) &&& 51) + ((y / 2 ^ 2) &&& 51)
def a1 (n X : Nat) : Nat := X - ((X / 2 ^ 1) &&& mm 85 n)
def a2 (n X : Nat) : Nat := ((X / 2 ^ 0) &&& mm 51 n) + ((X / 2 ^ 2) &&& mm 51 n)
theorem g_tab : ∀ y, y < 256 → g1 y < 256 ∧ g2 (g1 y) / 16 ≤ 4 ∧ g2 (g1 y) % 16 ≤ 4 ∧ g2 (g1 y) < 256 ∧ g2 (g1 y) / 16 + g2 (g1 y) % 16 = fb_ct (fun t => y.testBit t) 8 := by decide +kernel
theorem a1_s (n Z : Nat) {y : Nat} (hy : y < 2 ^ 8) : a1 (n + 1) (2 ^ 8 * Z + y) = 2 ^ 8 * a1 n Z + g1 y := by
  unfold a1 g1
  show (2 ^ 8 * Z + y) - (((2 ^ 8 * Z + y) / 2 ^ 1) &&& (2 ^ 8 * mm 85 n + 85)) = _
  rw [pick_s hy (by decide) (by decide) (by decide)]
  have h1 : (Z / 2 ^ 1) &&& mm 85 n ≤ Z := Nat.le_trans Nat.and_le_left (Nat.div_le_self _ _)
  have h2 : (y / 2 ^ 1) &&& 85 ≤ y := Nat.le_trans Nat.and_le_left (Nat.div_le_self _ _)
  omega
theorem a2_s (n Z : Nat) {y : Nat} (hy : y < 2 ^ 8) : a2 (n + 1) (2 ^ 8 * Z + y) = 2 ^ 8 * a2 n Z + g2 y := by
  unfold a2 g2
  show (((2 ^ 8 * Z + y) / 2 ^ 0) &&& (2 ^ 8 * mm 51 n + 51)) + (((2 ^ 8 * Z + y) / 2 ^ 2) &&& (2 ^ 8 * mm 51 n + 51)) = _
  rw [pick_s hy (by decide) (by decide) (by decide), pick_s hy (by decide) (by decide) (by decide)]
  omega
theorem pick_n {c h Z M : Nat} (hc : c < 16) (hh : h < 16) : (2 ^ 8 * Z + (16 * h + c)) &&& (2 ^ 8 * M + 15) = 2 ^ 8 * (Z &&& M) + c := by
  have h1 := pick_s (y := 16 * h + c) (Z := Z) (v := 15) (M := M) (t := 0) (by omega) (by decide) (by decide) (by decide)
  rw [Nat.pow_zero, Nat.div_one, Nat.div_one, Nat.div_one] at h1
  rw [h1]
  have h2 : ∀ h, h < 16 → ∀ c, c < 16 → (16 * h + c) &&& 15 = c := by decide +kernel
  rw [h2 h hh c hc]
/-- bits of bytes -/
theorem ct_byte (Z : Nat) {y : Nat} (hy : y < 2 ^ 8) (n : Nat) : fb_ct (fun t => (2 ^ 8 * Z + y).testBit t) (8 + n) = fb_ct (fun t => y.testBit t) 8 + fb_ct (fun t => Z.testBit t) n := by
  rw [fb_ct_split]
  congr 1
  · exact fb_ct_cong fun k hk => by rw [tb2 _ _ _ hy, if_pos hk]
  · exact fb_ct_cong fun k hk => by rw [tb2 _ _ _ hy, if_neg (by omega)]; congr 1; omega
theorem byte_of (X : Nat) : ∃ Z y, y < 2 ^ 8 ∧ X = 2 ^ 8 * Z + y := ⟨X / 2 ^ 8, X % 2 ^ 8, Nat.mod_lt _ (by decide), (Nat.div_add_mod _ _).symm⟩
theorem ct_0 (n : Nat) : fb_ct (fun t => (0 : Nat).testBit t) n = 0 := fb_ct_zero.mpr fun k _ => Nat.zero_testBit k
def cP : Nat → List (Nat × Nat) → Nat
  | 0, _ => 0
  | _, [] => 0
  | n + 1, q :: l => 2 ^ 8 * cP n l + (16 * q.1 + q.2)
/-- four bytes -/
theorem bc4 {X : Nat} (hX : X < 2 ^ 32) {B C D E : Nat} (hB : B = a2 4 (a1 4 X)) (hC : C = (B + B / 16) &&& mm 15 4) (hD : D = C + C / 2 ^ 8) (hE : E = D + D / 2 ^ 16) : E &&& 63 = fb_ct (fun t => X.testBit t) 32 := by
  obtain ⟨X1, y0, k0, e0⟩ := byte_of X
  obtain ⟨X2, y1, k1, e1⟩ := byte_of X1
  obtain ⟨X3, y2, k2, e2⟩ := byte_of X2
  obtain ⟨X4, y3, k3, e3⟩ := byte_of X3
  have z4 : X4 = 0 := by omega
  obtain ⟨p0, q0, r0, s0, t0⟩ := g_tab y0 (by omega)
  obtain ⟨p1, q1, r1, s1, t1⟩ := g_tab y1 (by omega)
  obtain ⟨p2, q2, r2, s2, t2⟩ := g_tab y2 (by omega)
  obtain ⟨p3, q3, r3, s3, t3⟩ := g_tab y3 (by omega)
  have hct : fb_ct (fun t => X.testBit t) 32 = fb_ct (fun t => y0.testBit t) 8 + (fb_ct (fun t => y1.testBit t) 8 + (fb_ct (fun t => y2.testBit t) 8 + (fb_ct (fun t => y3.testBit t) 8 + 0))) := by
    rw [e0, ct_byte _ k0 24, e1, ct_byte _ k1 16, e2, ct_byte _ k2 8, e3, z4]
    have := ct_byte 0 k3 0
    rw [Nat.add_zero] at this
    rw [this]
    rfl
  rw [hct, ← t0, ← t1, ← t2, ← t3]
  have hB2 : B = 2 ^ 8 * (2 ^ 8 * (2 ^ 8 * (2 ^ 8 * 0 + g2 (g1 y3)) + g2 (g1 y2)) + g2 (g1 y1)) + g2 (g1 y0) := by
    rw [hB, e0, a1_s _ _ k0, a2_s _ _ p0, e1, a1_s _ _ k1, a2_s _ _ p1, e2, a1_s _ _ k2, a2_s _ _ p2, e3, a1_s _ _ k3, a2_s _ _ p3, z4]
    rfl
  generalize g2 (g1 y0) = w0 at *
  generalize g2 (g1 y1) = w1 at *
  generalize g2 (g1 y2) = w2 at *
  generalize g2 (g1 y3) = w3 at *
  obtain ⟨l0, m0, f0, f1⟩ : ∃ l h, l = w0 % 16 ∧ h = w0 / 16 := ⟨_, _, rfl, rfl⟩
  obtain ⟨l1, m1, f2, f3⟩ : ∃ l h, l = w1 % 16 ∧ h = w1 / 16 := ⟨_, _, rfl, rfl⟩
  obtain ⟨l2, m2, f4, f5⟩ : ∃ l h, l = w2 % 16 ∧ h = w2 / 16 := ⟨_, _, rfl, rfl⟩
  obtain ⟨l3, m3, f6, f7⟩ : ∃ l h, l = w3 % 16 ∧ h = w3 / 16 := ⟨_, _, rfl, rfl⟩
  have hB3 : B + B / 16 = 2 ^ 8 * (2 ^ 8 * (2 ^ 8 * (2 ^ 8 * 0 + (16 * m3 + (l3 + m3))) + (16 * (m2 + l3) + (l2 + m2))) + (16 * (m1 + l2) + (l1 + m1))) + (16 * (m0 + l1) + (l0 + m0)) := by omega
  have hC2 : C = 2 ^ 8 * (2 ^ 8 * (2 ^ 8 * (2 ^ 8 * 0 + (l3 + m3)) + (l2 + m2)) + (l1 + m1)) + (l0 + m0) := by
    rw [hC, hB3]
    show _ &&& (2 ^ 8 * (2 ^ 8 * (2 ^ 8 * (2 ^ 8 * 0 + 15) + 15) + 15) + 15) = _
    rw [pick_n (by omega) (by omega), pick_n (by omega) (by omega), pick_n (by omega) (by omega), pick_n (by omega) (by omega)]
    rfl
  clear hB hB2 hB3 hC hct e0 e1 e2 e3
  obtain ⟨c0, n0⟩ : ∃ c, c = l0 + m0 := ⟨_, rfl⟩
  obtain ⟨c1, n1⟩ : ∃ c, c = l1 + m1 := ⟨_, rfl⟩
  obtain ⟨c2, n2⟩ : ∃ c, c = l2 + m2 := ⟨_, rfl⟩
  obtain ⟨c3, n3⟩ : ∃ c, c = l3 + m3 := ⟨_, rfl⟩
  rw [← n0, ← n1, ← n2, ← n3] at hC2
  have b0 : c0 ≤ 8 := by omega
  have b1 : c1 ≤ 8 := by omega
  have b2 : c2 ≤ 8 := by omega
  have b3 : c3 ≤ 8 := by omega
  have hs : w0 / 16 + w0 % 16 + (w1 / 16 + w1 % 16 + (w2 / 16 + w2 % 16 + (w3 / 16 + w3 % 16 + 0))) = c0 + c1 + c2 + c3 := by omega
  rw [hs]
  have hD2 : D = 2 ^ 8 * (2 ^ 8 * (2 ^ 8 * c3 + (c2 + c3)) + (c1 + c2)) + (c0 + c1) := by clear hs; omega
  have hE2 : D / 2 ^ 16 = 2 ^ 8 * c3 + (c2 + c3) := by clear hs hD; omega
  rw [show (63 : Nat) = 2 ^ 6 - 1 from rfl, Nat.and_two_pow_sub_one_eq_mod, hE, hE2, hD2]
  clear hs hD hE hE2 hC2 hD2
  omega
/-- eight bytes -/
theorem bc8 {X : Nat} (hX : X < 2 ^ 64) {B C D E G : Nat} (hB : B = a2 8 (a1 8 X)) (hC : C = (B + B / 16) &&& mm 15 8) (hD : D = C + C / 2 ^ 8) (hE : E = D + D / 2 ^ 16) (hG : G = E + E / 2 ^ 32) : G &&& 127 = fb_ct (fun t => X.testBit t) 64 := by
  obtain ⟨X1, y0, k0, e0⟩ := byte_of X
  obtain ⟨X2, y1, k1, e1⟩ := byte_of X1
  obtain ⟨X3, y2, k2, e2⟩ := byte_of X2
  obtain ⟨X4, y3, k3, e3⟩ := byte_of X3
  obtain ⟨X5, y4, k4, e4⟩ := byte_of X4
  obtain ⟨X6, y5, k5, e5⟩ := byte_of X5
  obtain ⟨X7, y6, k6, e6⟩ := byte_of X6
  obtain ⟨X8, y7, k7, e7⟩ := byte_of X7
  have z8 : X8 = 0 := by omega
  obtain ⟨p0, q0, r0, s0, t0⟩ := g_tab y0 (by omega)
  obtain ⟨p1, q1, r1, s1, t1⟩ := g_tab y1 (by omega)
  obtain ⟨p2, q2, r2, s2, t2⟩ := g_tab y2 (by omega)
  obtain ⟨p3, q3, r3, s3, t3⟩ := g_tab y3 (by omega)
  obtain ⟨p4, q4, r4, s4, t4⟩ := g_tab y4 (by omega)
  obtain ⟨p5, q5, r5, s5, t5⟩ := g_tab y5 (by omega)
  obtain ⟨p6, q6, r6, s6, t6⟩ := g_tab y6 (by omega)
  obtain ⟨p7, q7, r7, s7, t7⟩ := g_tab y7 (by omega)
  have hct : fb_ct (fun t => X.testBit t) 64 = (fb_ct (fun t => y0.testBit t) 8 + (fb_ct (fun t => y1.testBit t) 8 + (fb_ct (fun t => y2.testBit t) 8 + (fb_ct (fun t => y3.testBit t) 8 + (fb_ct (fun t => y4.testBit t) 8 + (fb_ct (fun t => y5.testBit t) 8 + (fb_ct (fun t => y6.testBit t) 8 + (fb_ct (fun t => y7.testBit t) 8 + 0)))))))) := by
    rw [e0, ct_byte _ k0 56, e1, ct_byte _ k1 48, e2, ct_byte _ k2 40, e3, ct_byte _ k3 32, e4, ct_byte _ k4 24, e5, ct_byte _ k5 16, e6, ct_byte _ k6 8, e7, z8]
    have := ct_byte 0 k7 0
    rw [Nat.add_zero] at this
    rw [this]
    rfl
  rw [hct, ← t0, ← t1, ← t2, ← t3, ← t4, ← t5, ← t6, ← t7]
  have hB2 : B = (2 ^ 8 * (2 ^ 8 * (2 ^ 8 * (2 ^ 8 * (2 ^ 8 * (2 ^ 8 * (2 ^ 8 * (2 ^ 8 * 0 + g2 (g1 y7)) + g2 (g1 y6)) + g2 (g1 y5)) + g2 (g1 y4)) + g2 (g1 y3)) + g2 (g1 y2)) + g2 (g1 y1)) + g2 (g1 y0)) := by
    rw [hB, e0, a1_s _ _ k0, a2_s _ _ p0, e1, a1_s _ _ k1, a2_s _ _ p1, e2, a1_s _ _ k2, a2_s _ _ p2, e3, a1_s _ _ k3, a2_s _ _ p3, e4, a1_s _ _ k4, a2_s _ _ p4, e5, a1_s _ _ k5, a2_s _ _ p5, e6, a1_s _ _ k6, a2_s _ _ p6, e7, a1_s _ _ k7, a2_s _ _ p7, z8]
    rfl
  generalize g2 (g1 y0) = w0 at *
  generalize g2 (g1 y1) = w1 at *
  generalize g2 (g1 y2) = w2 at *
  generalize g2 (g1 y3) = w3 at *
  generalize g2 (g1 y4) = w4 at *
  generalize g2 (g1 y5) = w5 at *
  generalize g2 (g1 y6) = w6 at *
  generalize g2 (g1 y7) = w7 at *
  obtain ⟨l0, m0, f0, h0⟩ : ∃ l h, l = w0 % 16 ∧ h = w0 / 16 := ⟨_, _, rfl, rfl⟩
  obtain ⟨l1, m1, f1, h1⟩ : ∃ l h, l = w1 % 16 ∧ h = w1 / 16 := ⟨_, _, rfl, rfl⟩
  obtain ⟨l2, m2, f2, h2⟩ : ∃ l h, l = w2 % 16 ∧ h = w2 / 16 := ⟨_, _, rfl, rfl⟩
  obtain ⟨l3, m3, f3, h3⟩ : ∃ l h, l = w3 % 16 ∧ h = w3 / 16 := ⟨_, _, rfl, rfl⟩
  obtain ⟨l4, m4, f4, h4⟩ : ∃ l h, l = w4 % 16 ∧ h = w4 / 16 := ⟨_, _, rfl, rfl⟩
  obtain ⟨l5, m5, f5, h5⟩ : ∃ l h, l = w5 % 16 ∧ h = w5 / 16 := ⟨_, _, rfl, rfl⟩
  obtain ⟨l6, m6, f6, h6⟩ : ∃ l h, l = w6 % 16 ∧ h = w6 / 16 := ⟨_, _, rfl, rfl⟩
  obtain ⟨l7, m7, f7, h7⟩ : ∃ l h, l = w7 % 16 ∧ h = w7 / 16 := ⟨_, _, rfl, rfl⟩
  clear hct e0 k0 p0 s0 t0 e1 k1 p1 s1 t1 e2 k2 p2 s2 t2 e3 k3 p3 s3 t3 e4 k4 p4 s4 t4 e5 k5 p5 s5 t5 e6 k6 p6 s6 t6 e7 k7 p7 s7 t7
  have v0 : w0 = 16 * m0 + l0 := by omega
  have v1 : w1 = 16 * m1 + l1 := by omega
  have v2 : w2 = 16 * m2 + l2 := by omega
  have v3 : w3 = 16 * m3 + l3 := by omega
  have v4 : w4 = 16 * m4 + l4 := by omega
  have v5 : w5 = 16 * m5 + l5 := by omega
  have v6 : w6 = 16 * m6 + l6 := by omega
  have v7 : w7 = 16 * m7 + l7 := by omega
  have hB3 : B + B / 16 = (2 ^ 8 * (2 ^ 8 * (2 ^ 8 * (2 ^ 8 * (2 ^ 8 * (2 ^ 8 * (2 ^ 8 * (2 ^ 8 * 0 + (16 * m7 + (l7 + m7))) + (16 * (m6 + l7) + (l6 + m6))) + (16 * (m5 + l6) + (l5 + m5))) + (16 * (m4 + l5) + (l4 + m4))) + (16 * (m3 + l4) + (l3 + m3))) + (16 * (m2 + l3) + (l2 + m2))) + (16 * (m1 + l2) + (l1 + m1))) + (16 * (m0 + l1) + (l0 + m0))) := by
    clear hB hC hD hE hG hX z8
    omega
  have hC2 : C = (2 ^ 8 * (2 ^ 8 * (2 ^ 8 * (2 ^ 8 * (2 ^ 8 * (2 ^ 8 * (2 ^ 8 * (2 ^ 8 * 0 + (l7 + m7)) + (l6 + m6)) + (l5 + m5)) + (l4 + m4)) + (l3 + m3)) + (l2 + m2)) + (l1 + m1)) + (l0 + m0)) := by
    rw [hC, hB3]
    show _ &&& (2 ^ 8 * (2 ^ 8 * (2 ^ 8 * (2 ^ 8 * (2 ^ 8 * (2 ^ 8 * (2 ^ 8 * (2 ^ 8 * 0 + 15) + 15) + 15) + 15) + 15) + 15) + 15) + 15) = _
    rw [pick_n (by omega) (by omega), pick_n (by omega) (by omega), pick_n (by omega) (by omega), pick_n (by omega) (by omega), pick_n (by omega) (by omega), pick_n (by omega) (by omega), pick_n (by omega) (by omega), pick_n (by omega) (by omega)]
    rfl
  obtain ⟨c0, n0⟩ : ∃ c, c = l0 + m0 := ⟨_, rfl⟩
  obtain ⟨c1, n1⟩ : ∃ c, c = l1 + m1 := ⟨_, rfl⟩
  obtain ⟨c2, n2⟩ : ∃ c, c = l2 + m2 := ⟨_, rfl⟩
  obtain ⟨c3, n3⟩ : ∃ c, c = l3 + m3 := ⟨_, rfl⟩
  obtain ⟨c4, n4⟩ : ∃ c, c = l4 + m4 := ⟨_, rfl⟩
  obtain ⟨c5, n5⟩ : ∃ c, c = l5 + m5 := ⟨_, rfl⟩
  obtain ⟨c6, n6⟩ : ∃ c, c = l6 + m6 := ⟨_, rfl⟩
  obtain ⟨c7, n7⟩ : ∃ c, c = l7 + m7 := ⟨_, rfl⟩
  rw [← n0, ← n1, ← n2, ← n3, ← n4, ← n5, ← n6, ← n7] at hC2
  have b0 : c0 ≤ 8 := by omega
  have b1 : c1 ≤ 8 := by omega
  have b2 : c2 ≤ 8 := by omega
  have b3 : c3 ≤ 8 := by omega
  have b4 : c4 ≤ 8 := by omega
  have b5 : c5 ≤ 8 := by omega
  have b6 : c6 ≤ 8 := by omega
  have b7 : c7 ≤ 8 := by omega
  have hs : (w0 / 16 + w0 % 16 + (w1 / 16 + w1 % 16 + (w2 / 16 + w2 % 16 + (w3 / 16 + w3 % 16 + (w4 / 16 + w4 % 16 + (w5 / 16 + w5 % 16 + (w6 / 16 + w6 % 16 + (w7 / 16 + w7 % 16 + 0)))))))) = c0 + c1 + c2 + c3 + c4 + c5 + c6 + c7 := by
    rw [n0, n1, n2, n3, n4, n5, n6, n7]
    clear hB hC hD hE hG hX hB2 hB3 hC2
    omega
  rw [hs]
  clear hs hB hB2 hB3 hC hX z8 v0 n0 f0 h0 q0 r0 v1 n1 f1 h1 q1 r1 v2 n2 f2 h2 q2 r2 v3 n3 f3 h3 q3 r3 v4 n4 f4 h4 q4 r4 v5 n5 f5 h5 q5 r5 v6 n6 f6 h6 q6 r6 v7 n7 f7 h7 q7 r7
  have hC3 : C / 2 ^ 8 = (2 ^ 8 * (2 ^ 8 * (2 ^ 8 * (2 ^ 8 * (2 ^ 8 * (2 ^ 8 * (2 ^ 8 * 0 + (c7)) + (c6)) + (c5)) + (c4)) + (c3)) + (c2)) + (c1)) := by omega
  have hD2 : D = (2 ^ 8 * (2 ^ 8 * (2 ^ 8 * (2 ^ 8 * (2 ^ 8 * (2 ^ 8 * (2 ^ 8 * (2 ^ 8 * 0 + (c7)) + (c6 + c7)) + (c5 + c6)) + (c4 + c5)) + (c3 + c4)) + (c2 + c3)) + (c1 + c2)) + (c0 + c1)) := by rw [hD, hC3, hC2]; clear hD hC3 hC2 hE hG; omega
  clear hD hC3 hC2
  have hD3 : D / 2 ^ 16 = (2 ^ 8 * (2 ^ 8 * (2 ^ 8 * (2 ^ 8 * (2 ^ 8 * (2 ^ 8 * 0 + (c7)) + (c6 + c7)) + (c5 + c6)) + (c4 + c5)) + (c3 + c4)) + (c2 + c3)) := by clear hE hG; omega
  have hE2 : E = (2 ^ 8 * (2 ^ 8 * (2 ^ 8 * (2 ^ 8 * (2 ^ 8 * (2 ^ 8 * (2 ^ 8 * (2 ^ 8 * 0 + (c7)) + (c6 + c7)) + (c5 + c6 + c7)) + (c4 + c5 + c6 + c7)) + (c3 + c4 + c5 + c6)) + (c2 + c3 + c4 + c5)) + (c1 + c2 + c3 + c4)) + (c0 + c1 + c2 + c3)) := by rw [hE, hD3, hD2]; clear hE hD3 hD2 hG; omega
  clear hE hD3 hD2
  have hE3 : E / 2 ^ 32 = (2 ^ 8 * (2 ^ 8 * (2 ^ 8 * (2 ^ 8 * 0 + (c7)) + (c6 + c7)) + (c5 + c6 + c7)) + (c4 + c5 + c6 + c7)) := by clear hG; omega
  rw [show (127 : Nat) = 2 ^ 7 - 1 from rfl, Nat.and_two_pow_sub_one_eq_mod, hG, hE3, hE2]
  clear hG hE3 hE2
  omega
def popc (x : Int64) : Nat := fb_ct (fun t => lb x t) 64
theorem lb_lN {X : Nat} (t : Nat) (ht : t < 64) : lb (lN X) t = X.testBit t := by
  show (BitVec.ofNat 64 X).getLsbD t = _
  rw [BitVec.getLsbD_ofNat]
  simp [ht]
