/-! the property's own mathematics: registers come again, a line and its turned one -/
theorem reg_add (z s : Nat) : ∀ t, reg z (s + t) = reg (reg z s) t
  | 0 => rfl
  | t + 1 => by
    show nr (reg z (s + t)) = nr (reg (reg z s) t)
    rw [reg_add z s t]
theorem reg_255 : ∀ z, z < 256 → 1 ≤ z → reg z 255 = z := by decide +kernel
theorem reg_per {z : Nat} (h1 : 1 ≤ z) (h2 : z ≤ 255) (t : Nat) : reg z (t + 255) = reg z t := by
  rw [Nat.add_comm, reg_add, reg_255 z (by omega) h1]
theorem src_per {f : Nat → Ln} {j : Nat} (hq : LnOk j (f j)) (h : (f j).1 = 0) (t : Nat) : bt f j (t + 255) = bt f j t := by
  rw [bt_0 hq h, bt_0 hq h, reg_per (hq.2.1 h).2.1 (hq.2.1 h).2.2]
theorem unl_src {f : Nat → Ln} {j : Nat} (hq : LnOk j (f j)) (h : (f j).1 = 0) (n : Nat) : unlF f j n = 0 := by
  unfold unlF
  rw [fb_ct_zero]
  intro k _
  rw [src_per hq h]
  simp
/-- a line of the first bench and its first one of the second -/
def Pr (q r : Ln) : Prop := r.1 = q.1 ∧ (q.1 = 0 → r.2.1 = q.2.1 ∧ r.2.2.1 = q.2.2.1) ∧ (q.1 = 1 ∨ q.1 = 2 → r.2.1 = 2 * q.2.1 ∧ r.2.2.1 = 2 * q.2.2.1) ∧ (q.1 = 3 → r.2.1 = 2 * q.2.1 + 1 ∧ r.2.2.1 = 2 * q.2.2.1 + 1) ∧ (q.1 = 4 → r.2.1 = 2 * q.2.2.1 ∧ r.2.2.1 = 2 * q.2.1 ∧ r.2.2.2 = 2 * q.2.2.2 + 1) ∧ (q.1 = 5 → r.2.1 = 2 * q.2.1) ∧ (q.1 = 6 → r.2.1 = 2 * q.2.1 ∧ r.2.2.1 = q.2.2.1)
def Tu (r : Ln) (k : Nat) : Prop := r.1 = 5 ∧ r.2.1 = 2 * k
theorem rel_bits {f g : Nat → Ln} {n : Nat} (hf : ∀ j, j < n → LnOk j (f j)) (hg : ∀ j, j < 2 * n → LnOk j (g j)) (hp : ∀ k, k < n → Pr (f k) (g (2 * k)) ∧ Tu (g (2 * k + 1)) k) : ∀ k, k < n → ∀ t, bt g (2 * k) t = bt f k t ∧ bt g (2 * k + 1) t = !bt f k t := by
  intro k
  induction k using Nat.strongRecOn with
  | ind k ih =>
    intro hk
    have hq := hf k hk
    have hr := hg (2 * k) (by omega)
    have hs := hg (2 * k + 1) (by omega)
    obtain ⟨⟨p0, p1, p2, p3, p4, p5, p6⟩, t1, t2⟩ := hp k hk
    have main : ∀ t, bt g (2 * k) t = bt f k t := by
      intro t
      have i0 : ∀ i, i < k → ∀ t, bt g (2 * i) t = bt f i t := fun i hi t => (ih i hi (by omega) t).1
      have i1 : ∀ i, i < k → ∀ t, bt g (2 * i + 1) t = !bt f i t := fun i hi t => (ih i hi (by omega) t).2
      obtain ⟨h6, q1, q2, q3, q4, q5⟩ := hq
      have hq := hf k hk
      rcases (show (f k).1 = 0 ∨ (f k).1 = 1 ∨ (f k).1 = 2 ∨ (f k).1 = 3 ∨ (f k).1 = 4 ∨ (f k).1 = 5 ∨ (f k).1 = 6 by omega) with e | e | e | e | e | e | e
      · rw [bt_0 hr (p0.trans e), bt_0 hq e, (p1 e).1, (p1 e).2]
      · rw [bt_1 hr (p0.trans e), bt_1 hq e, (p2 (Or.inl e)).1, (p2 (Or.inl e)).2, i0 _ (q2 (by omega)), i0 _ (q3 (by omega) (by omega))]
      · rw [bt_2 hr (p0.trans e), bt_2 hq e, (p2 (Or.inr e)).1, (p2 (Or.inr e)).2, i0 _ (q2 (by omega)), i0 _ (q3 (by omega) (by omega))]
      · rw [bt_3 hr (p0.trans e), bt_3 hq e, (p3 e).1, (p3 e).2, i1 _ (q2 (by omega)), i1 _ (q3 (by omega) (by omega))]
        simp
      · rw [bt_4 hr (p0.trans e), bt_4 hq e, (p4 e).1, (p4 e).2.1, (p4 e).2.2, i0 _ (q2 (by omega)), i0 _ (q3 (by omega) (by omega)), i1 _ (q4 e)]
        cases bt f (f k).2.2.2 t <;> simp
      · rw [bt_5 hr (p0.trans e), bt_5 hq e, p5 e, i0 _ (q2 (by omega))]
      · rw [bt_6 hr (p0.trans e), bt_6 hq e, (p6 e).1, (p6 e).2]
        split
        · rfl
        · rw [i0 _ (q2 (by omega))]
    intro t
    refine ⟨main t, ?_⟩
    rw [bt_5 hs t1, t2, main]
/-- gates by each other -/
theorem gate_turn {f g : Nat → Ln} {n i j k : Nat} (hq : LnOk n (f n)) (hr : LnOk (2 * n) (g (2 * n))) (hi : ∀ t, bt g (2 * i + 1) t = !bt f i t) (hj : ∀ t, bt g (2 * j + 1) t = !bt f j t) (hk : k = 1 ∨ k = 2) (ef : (f n).1 = k ∧ (f n).2.1 = i ∧ (f n).2.2.1 = j) (eg : (g (2 * n)).1 = 3 - k ∧ (g (2 * n)).2.1 = 2 * i + 1 ∧ (g (2 * n)).2.2.1 = 2 * j + 1) (t : Nat) : bt g (2 * n) t = !bt f n t := by
  obtain ⟨e1, e2, e3⟩ := ef
  obtain ⟨d1, d2, d3⟩ := eg
  rcases hk with rfl | rfl
  · rw [bt_2 hr d1, bt_1 hq e1, d2, d3, e2, e3, hi, hj]
    simp
  · rw [bt_1 hr d1, bt_2 hq e1, d2, d3, e2, e3, hi, hj]
    simp
theorem cnt_not {f g : Nat → Ln} {i j : Nat} (h : ∀ t, bt g j t = !bt f i t) (t : Nat) : cnt f i t + cnt g j t = t := by
  have h1 := fb_ct_not (bt f i) t
  have h2 : cnt g j t = fb_ct (fun k => !bt f i k) t := fb_ct_cong fun k _ => h k
  have h3 : cnt f i t = fb_ct (bt f i) t := rfl
  omega
theorem cnt_same {f g : Nat → Ln} {i j : Nat} (h : ∀ t, bt g j t = bt f i t) (t : Nat) : cnt g j t = cnt f i t := fb_ct_cong fun k _ => h k
theorem unl_not {f g : Nat → Ln} {i j : Nat} (h : ∀ t, bt g j t = !bt f i t) (n : Nat) : unlF g j n = unlF f i n := fb_ct_cong fun k _ => by
  rw [h, h]
  cases bt f i (60 + k) <;> cases bt f i (60 + k + 255) <;> rfl
theorem both_self (f : Nat → Ln) (i t : Nat) : both f i i t = cnt f i t := fb_ct_cong fun k _ => by simp
theorem both_not {f : Nat → Ln} {i j : Nat} (h : ∀ t, bt f j t = !bt f i t) (t : Nat) : both f i j t = 0 := by
  unfold both
  rw [fb_ct_zero]
  intro k _
  rw [h]
  simp
theorem both_comm (f : Nat → Ln) (i j t : Nat) : both f i j t = both f j i t := fb_ct_cong fun k _ => Bool.and_comm _ _
theorem both_le (f : Nat → Ln) (i j t : Nat) : both f i j t ≤ cnt f i t := fb_ct_sub fun k _ h => by
  rw [Bool.and_eq_true] at h
  exact h.1
theorem both_ge (f : Nat → Ln) (i j : Nat) : ∀ t, cnt f i t + cnt f j t ≤ both f i j t + t
  | 0 => Nat.le_refl 0
  | t + 1 => by
    have h := both_ge f i j t
    unfold cnt both at h ⊢
    rw [fb_ct_succ, fb_ct_succ, fb_ct_succ]
    cases bt f i t <;> cases bt f j t <;> simp <;> omega
theorem ex_turn {f : Nat → Ln} {j i : Nat} (hq : LnOk j (f j)) (h : (f j).1 = 5) (h2 : (f j).2.1 = i) : ex f j = 65536 - ex f i := by
  rw [ex_eq hq, exS, h, h2]
  simp
/-! depths, sources -/
theorem dp_zero {f : Nat → Ln} {j : Nat} (hq : LnOk j (f j)) : dp f j = 0 ↔ (f j).1 = 0 := by
  rw [dp_eq hq, dpS]
  by_cases h : (f j).1 = 0
  · rw [if_pos h]
    exact ⟨fun _ => h, fun _ => rfl⟩
  · rw [if_neg h]
    refine ⟨fun q => ?_, fun q => absurd q h⟩
    split at q
    · omega
    · split at q <;> omega
theorem mxN_ge {g : Nat → Nat} {i : Nat} : ∀ {n : Nat}, i < n → g i ≤ mxN g n
  | 0, h => absurd h (Nat.not_lt_zero i)
  | n + 1, h => by
    show g i ≤ max (mxN g n) (g n)
    by_cases e : i = n
    · rw [e]
      exact Nat.le_max_right _ _
    · have := mxN_ge (g := g) (show i < n by omega)
      omega
theorem og_src {f : Nat → Ln} {n : Nat} (hf : ∀ j, j < n → LnOk j (f j)) : ∀ j, j < n → og f j ≠ 0 ∧ ∀ t, (og f j).testBit t = true → t ≤ j ∧ (f t).1 = 0 := by
  intro j
  induction j using Nat.strongRecOn with
  | ind j ih =>
    intro hj
    have hq := hf j hj
    rw [og_eq hq, ogS]
    rcases hq.ahead with k | ⟨k1, k2, ha, hb⟩ | ⟨k, ha, hb, hc⟩ | ⟨k, ha⟩ | ⟨k, ha⟩
    · rw [if_pos k]
      refine ⟨Nat.ne_of_gt (Nat.two_pow_pos j), fun t ht => ?_⟩
      rw [Nat.testBit_two_pow] at ht
      have ht := of_decide_eq_true ht
      subst ht
      exact ⟨Nat.le_refl _, k⟩
    · rw [if_neg (by omega), if_pos k2]
      obtain ⟨a1, a2⟩ := ih _ ha (by omega)
      obtain ⟨b1, b2⟩ := ih _ hb (by omega)
      refine ⟨fun e => a1 (Nat.le_zero.mp (e ▸ Nat.left_le_or)), fun t ht => ?_⟩
      rw [Nat.testBit_or, Bool.or_eq_true] at ht
      rcases ht with ht | ht
      · have := a2 t ht
        exact ⟨by omega, this.2⟩
      · have := b2 t ht
        exact ⟨by omega, this.2⟩
    · rw [if_neg (by omega), if_neg (by omega), if_pos k]
      obtain ⟨a1, a2⟩ := ih _ ha (by omega)
      obtain ⟨b1, b2⟩ := ih _ hb (by omega)
      obtain ⟨c1, c2⟩ := ih _ hc (by omega)
      refine ⟨fun e => c1 (Nat.le_zero.mp (e ▸ Nat.right_le_or)), fun t ht => ?_⟩
      rw [Nat.testBit_or, Nat.testBit_or, Bool.or_eq_true, Bool.or_eq_true] at ht
      rcases ht with (ht | ht) | ht
      · have := a2 t ht
        exact ⟨by omega, this.2⟩
      · have := b2 t ht
        exact ⟨by omega, this.2⟩
      · have := c2 t ht
        exact ⟨by omega, this.2⟩
    · rw [if_neg (by omega), if_neg (by omega), if_neg (by omega)]
      obtain ⟨a1, a2⟩ := ih _ ha (by omega)
      exact ⟨a1, fun t ht => ⟨by have := (a2 t ht).1; omega, (a2 t ht).2⟩⟩
    · rw [if_neg (by omega), if_neg (by omega), if_neg (by omega)]
      obtain ⟨a1, a2⟩ := ih _ ha (by omega)
      exact ⟨a1, fun t ht => ⟨by have := (a2 t ht).1; omega, (a2 t ht).2⟩⟩
theorem ct_within {p q : Nat → Bool} {n : Nat} (h : ∀ t, p t = true → t < n ∧ q t = true) : ∀ m, fb_ct p m ≤ fb_ct q (min m n)
  | 0 => Nat.zero_le _
  | m + 1 => by
    have ih := ct_within h m
    rw [fb_ct_succ]
    by_cases e : p m = true
    · have h1 := h m e
      rw [if_pos e, show min (m + 1) n = m + 1 from by omega, fb_ct_succ, if_pos h1.2]
      rw [show min m n = m from by omega] at ih
      omega
    · rw [if_neg e]
      have := fb_ct_mono q (show min m n ≤ min (m + 1) n by omega)
      omega
theorem og_count {f : Nat → Ln} {n j : Nat} (hf : ∀ j, j < n → LnOk j (f j)) (h16 : n ≤ 16) (hj : j < n) : 1 ≤ fb_ct (fun t => (og f j).testBit t) 32 ∧ fb_ct (fun t => (og f j).testBit t) 32 ≤ fb_ct (fun t => decide ((f t).1 = 0)) n := by
  obtain ⟨h1, h2⟩ := og_src hf j hj
  constructor
  · refine fb_ct_pos.mpr ?_
    obtain ⟨t, ht⟩ := Nat.exists_testBit_of_ne_zero h1
    have := h2 t ht
    exact ⟨t, by omega, ht⟩
  · have h3 := ct_within (p := fun t => (og f j).testBit t) (q := fun t => decide ((f t).1 = 0)) (n := n) (fun t ht => by
      have := h2 t ht
      exact ⟨by omega, decide_eq_true this.2⟩) 32
    rw [show min 32 n = n from by omega] at h3
    exact h3
/-! settling, the worst line -/
theorem lastF_self (f : Nat → Ln) (j t : Nat) : lastF f j (errN f j (t + 1)) (t + 1) = lastF f j (errN f j (t + 1)) t := if_neg (by omega)
theorem wr_spec {f : Nat → Ln} {t : Nat} : ∀ n w g, wrst f t n = some (w, g) → w < n ∧ g = errN f w t ∧ (∀ k, k < n → errN f k t ≤ g) ∧ ∀ k, k < w → errN f k t < g
  | 0, w, g, h => by cases h
  | n + 1, w, g, h => by
    rcases hw : wrst f t n with _ | ⟨w1, g1⟩
    · rw [wr_none hw] at h
      cases h
      have h0 : n = 0 := by
        cases n with
        | zero => rfl
        | succ m =>
          exfalso
          unfold wrst at hw
          split at hw
          · cases hw
          · split at hw <;> cases hw
      subst h0
      exact ⟨by omega, rfl, fun k hk => by rw [show k = 0 from by omega]; exact Nat.le_refl _, fun k hk => absurd hk (Nat.not_lt_zero k)⟩
    · obtain ⟨a1, a2, a3, a4⟩ := wr_spec n w1 g1 hw
      by_cases q : g1 < errN f n t
      · rw [wr_gt hw q] at h
        cases h
        refine ⟨by omega, rfl, fun k hk => ?_, fun k hk => ?_⟩
        · by_cases e : k = n
          · rw [e]
            exact Nat.le_refl _
          · have := a3 k (by omega)
            omega
        · have := a3 k hk
          omega
      · rw [wr_le hw q] at h
        cases h
        refine ⟨by omega, a2, fun k hk => ?_, a4⟩
        by_cases e : k = n
        · rw [e]
          omega
        · exact a3 k (by omega)
theorem wr_some (f : Nat → Ln) (t : Nat) : ∀ n, 1 ≤ n → ∃ w g, wrst f t n = some (w, g)
  | 0, h => absurd h (by decide)
  | n + 1, _ => by
    rcases hw : wrst f t n with _ | ⟨w1, g1⟩
    · exact ⟨_, _, wr_none hw⟩
    · by_cases q : g1 < errN f n t
      · exact ⟨_, _, wr_gt hw q⟩
      · exact ⟨_, _, wr_le hw q⟩
