theorem rgO_out {a b : Nat} (ha : a < 2 ^ 31) (hb : b < 2 ^ 31) {x : Int32} (h : rgO a b x = none) : x.toInt < (a : Int) ∨ (b : Int) < x.toInt := by
  by_cases q : nI a ≤ x ∧ x ≤ nI b
  · rw [rgO, if_pos q] at h
    cases h
  · rw [ile, ile, nT ha, nT hb] at q
    omega
def wrG (o : Option (Nat × Nat)) : Int32 := match o with | none => -1 | some (_, g) => nI g
theorem wr_none {f : Nat → Ln} {t n : Nat} (h : wrst f t n = none) : wrst f t (n + 1) = some (n, errN f n t) := by
  show (match wrst f t n with | none => _ | some (w, g) => _) = _
  rw [h]
theorem wr_gt {f : Nat → Ln} {t n w g : Nat} (h : wrst f t n = some (w, g)) (q : g < errN f n t) : wrst f t (n + 1) = some (n, errN f n t) := by
  show (match wrst f t n with | none => _ | some (w, g) => _) = _
  rw [h]
  exact if_pos q
theorem wr_le {f : Nat → Ln} {t n w g : Nat} (h : wrst f t n = some (w, g)) (q : ¬ g < errN f n t) : wrst f t (n + 1) = some (w, g) := by
  show (match wrst f t n with | none => _ | some (w, g) => _) = _
  rw [h]
  exact if_neg q
theorem wr_bnd {f : Nat → Ln} {t m : Nat} (he : ∀ j, j < m → errN f j t ≤ 65536) : ∀ n, n ≤ m → ∀ w g, wrst f t n = some (w, g) → w < n ∧ g ≤ 65536
  | 0, _, w, g, h => by cases h
  | n + 1, hn, w, g, h => by
    rcases hw : wrst f t n with _ | ⟨w2, g2⟩
    · rw [wr_none hw] at h
      cases h
      exact ⟨by omega, he n (by omega)⟩
    · by_cases q : g2 < errN f n t
      · rw [wr_gt hw q] at h
        cases h
        exact ⟨by omega, he n (by omega)⟩
      · rw [wr_le hw q] at h
        cases h
        have := wr_bnd he n (by omega) w g hw
        exact ⟨by omega, this.2⟩
theorem bN_le (b : Bool) : bN b ≤ 1 := by cases b <;> decide
theorem bN_eq {a b : Bool} (h : bN a = bN b) : a = b := by cases a <;> cases b <;> first | rfl | (exact absurd h (by decide))
theorem unl_eq {f : Nat → Ln} {j k : Nat} (h : bN (bt f j (60 + k)) = bN (bt f j (60 + k + 255))) : unlF f j (k + 1) = unlF f j k := by
  unfold unlF
  rw [fb_ct_succ, bN_eq h]
  simp
theorem unl_ne {f : Nat → Ln} {j k : Nat} (h : bN (bt f j (60 + k)) ≠ bN (bt f j (60 + k + 255))) : unlF f j (k + 1) = unlF f j k + 1 := by
  unfold unlF
  rw [fb_ct_succ, if_pos]
  rw [bne_iff_ne]
  exact fun e => h (by rw [e])
/-- the spare bench, the figures and the rows while seeds are tried -/
def SeedP (z : Sg) (i j s : Nat) (v : SS) : Prop := RepB 2 v.1 (z.1, z.2.1, seedF z.2.2 i s) ∧ (∀ a, a < z.1 → v.1 3 a = nI (ex z.2.2 a)) ∧ ∀ a, a < j + 1 → (a < i ∨ (a ≠ i ∧ (z.2.2 a).1 = 0)) → RowG v.2 (seedF z.2.2 i s) a ((z.2.1 + 64 - 1) / 64)
theorem SeedP.start {z : Sg} {i j : Nat} {c0 c : CF} {g : GF} (hz : SgOk z) (hB : RepB 0 c0 z) (hc : CopyOf 2 0 c0 c) (hf : FigI z.1 z.2.2 c0) (hr : ∀ a, a < j + 1 → RowG g z.2.2 a ((z.2.1 + 64 - 1) / 64)) : SeedP z i j (z.2.2 i).2.2.1 (c, g) := by
  unfold SeedP
  rw [seed_self]
  exact ⟨hc.rep hB hz.1, fun a ha => (hc.2.2 3 a (by decide) (by decide) (by omega) (by omega)).trans (hf.1 a ha), fun a ha _ => hr a ha⟩
theorem SeedP.share {z : Sg} {i j s : Nat} {v : SS} (h : SeedP z i j s v) (hi : i < z.1) : v.1 (30 + 2) (3 * i) = nI (z.2.2 i).2.1 := by
  have h2 := (h.1.2.2 i hi).2.1
  have e : seedF z.2.2 i s i = ((z.2.2 i).1, (z.2.2 i).2.1, s, (z.2.2 i).2.2.2) := if_pos rfl
  rw [show ((z.1, z.2.1, seedF z.2.2 i s) : Sg).2.2 = seedF z.2.2 i s from rfl, e] at h2
  exact h2
/-- with the rows below the source and of the other sources, a new seed's rows follow -/
theorem SeedP.rows {z : Sg} {i j s t : Nat} {v : SS} (h : SeedP z i j s v) (hz : SgOk z) (hj : j < z.1) (hk : (z.2.2 i).1 = 0) (hs : 1 ≤ s ∧ s ≤ 255) (ht : 1 ≤ t ∧ t ≤ 255) : ∀ a, a < j + 1 → (a < i ∨ (a ≠ i ∧ (z.2.2 a).1 = 0)) → RowG v.2 (seedF z.2.2 i t) a ((z.2.1 + 64 - 1) / 64) := by
  intro a ha h2
  have h3 := h.2.2 a ha h2
  rcases h2 with h2 | ⟨h4, h5⟩
  · exact seed_row h3 h2
  · exact seed_row0 h3 h4 h5 (seed_ok hz.2.2.2 hk hs.1 hs.2 a (by omega)) (seed_ok hz.2.2.2 hk ht.1 ht.2 a (by omega))
theorem seedF_ne {f : Nat → Ln} {i s a : Nat} (h : a ≠ i) : seedF f i s a = f a := if_neg h
theorem errS_le {z : Sg} {i j t s : Nat} (hz : SgOk z) (hj : j < z.1) (hk : (z.2.2 i).1 = 0) (h1 : 1 ≤ s) (h2 : s ≤ 255) : errS z.2.2 i j t s ≤ 65536 := errN_le (ex_le (seed_ok hz.2.2.2 hk h1 h2) j hj)
theorem len_ne {n : Nat} (h1 : 1 ≤ n) (h2 : n ≤ 1000) : ¬ lN (n * n) = 0 := by
  intro q
  have h3 : n * n ≤ 1000 * 1000 := Nat.mul_le_mul h2 h2
  have h4 : 1 * 1 ≤ n * n := Nat.mul_le_mul h1 h1
  have h5 := lNT (a := n * n) (by omega)
  rw [q] at h5
  have h6 : (0 : Int64).toInt = 0 := rfl
  omega
