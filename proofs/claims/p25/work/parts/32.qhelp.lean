theorem la_j (j : Nat) : nI j = nI (j + 1) - 1 := (pk_sub (a := j + 1) (b := 1) (by omega)).symm
theorem abs_nI {a b : Nat} (ha : a < 2 ^ 30) (hb : b < 2 ^ 30) : (if 0 ≤ nI a - nI b then nI a - nI b else 0 - (nI a - nI b)) = nI (apt a b) := by
  have h := pk_sub_toInt ha hb
  have e0 : (0 : Int32).toInt = 0 := rfl
  unfold apt
  by_cases q : b ≤ a
  · rw [if_pos (by rw [ile, h, e0]; omega), pk_sub q]
    congr 1
    omega
  · rw [if_neg (by rw [ile, h, e0]; omega)]
    have h2 := pk_sub (a := b) (b := a) (by omega)
    rw [show a - b + (b - a) = b - a from by omega, ← h2]
    apply Int32.toBitVec_inj.mp
    simp
theorem row_cnt {g : GF} {f : Nat → Ln} {j w t : Nat} (h : RowG g f j w) (ht : t ≤ 64 * w) : fb_ct (fun k => gb g j k) t = cnt f j t := fb_ct_cong fun k hk => rowG_gb h (by omega)
theorem row_both {g : GF} {f : Nat → Ln} {i j w t : Nat} (h : RowG g f i w) (h2 : RowG g f j w) (ht : t ≤ 64 * w) : fb_ct (fun k => gb g i k && gb g j k) t = both f i j t := fb_ct_cong fun k hk => by rw [rowG_gb h (by omega), rowG_gb h2 (by omega)]
theorem cnt_le (f : Nat → Ln) (j t : Nat) : cnt f j t ≤ t := fb_ct_le _ _
theorem sh_le (f : Nat → Ln) (j t : Nat) : cnt f j t * 65536 / t ≤ 65536 := by
  have h := cnt_le f j t
  exact Nat.div_le_of_le_mul (by omega)
theorem apt_le {a b n : Nat} (ha : a ≤ n) (hb : b ≤ n) : apt a b ≤ n := by unfold apt; omega
theorem errN_le {f : Nat → Ln} {j t : Nat} (h : ex f j ≤ 65536) : errN f j t ≤ 65536 := apt_le (sh_le f j t) h
theorem lNT {a : Nat} (h : a < 2 ^ 31) : (lN a).toInt = (a : Int) := lN_toInt h
theorem lNlt {a b : Nat} (ha : a < 2 ^ 31) (hb : b < 2 ^ 31) : lN a < lN b ↔ a < b := by
  rw [Int64.lt_iff_toInt_lt, lNT ha, lNT hb]
  omega
theorem lNle {a b : Nat} (ha : a < 2 ^ 31) (hb : b < 2 ^ 31) : lN a ≤ lN b ↔ a ≤ b := by
  rw [Int64.le_iff_toInt_le, lNT ha, lNT hb]
  omega
/-- the two sides of a seed's trial -/
theorem seed_seed (f : Nat → Ln) (i s t : Nat) : seedF (seedF f i s) i t = seedF f i t := by
  funext k
  unfold seedF setL
  by_cases e : k = i
  · subst e
    simp
  · simp [e]
theorem seed_self {f : Nat → Ln} {i : Nat} : seedF f i (f i).2.2.1 = f := by
  funext k
  unfold seedF setL
  by_cases e : k = i
  · rw [if_pos e, e]
  · rw [if_neg e]
theorem seed_ok {z : Sg} {i s : Nat} (h : ∀ j, j < z.1 → LnOk j (z.2.2 j)) (hk : (z.2.2 i).1 = 0) (h1 : 1 ≤ s) (h2 : s ≤ 255) : ∀ j, j < z.1 → LnOk j (seedF z.2.2 i s j) := by
  intro j hj
  have h3 := h j hj
  unfold seedF setL
  by_cases e : j = i
  · rw [if_pos e]
    subst e
    obtain ⟨a, b, c, d, e, f, g, k⟩ := h3
    refine ⟨a, fun q => ⟨(b q).1, h1, h2⟩, fun q => ?_, fun q => ?_, fun q => ?_, fun q => ?_, ?_, k⟩
    · have q : 1 ≤ (z.2.2 j).1 := q
      omega
    · have q : 1 ≤ (z.2.2 j).1 := q
      omega
    · have q : (z.2.2 j).1 = 4 := q
      omega
    · have q : (z.2.2 j).1 = 6 := q
      omega
    · show s ≤ 256
      omega
  · rw [if_neg e]
    exact h3
theorem ex_seed {f : Nat → Ln} {i s : Nat} {n : Nat} (h : ∀ j, j < n → LnOk j (f j)) (h2 : ∀ j, j < n → LnOk j (seedF f i s j)) (hk : (f i).1 = 0) : ∀ j, j < n → ex (seedF f i s) j = ex f j := by
  intro j
  induction j using Nat.strongRecOn with
  | _ j ih =>
    intro hj
    have ha := h2 j hj
    rw [ex_eq ha, ex_eq (h j hj)]
    by_cases e : j = i
    · subst e
      have h9 : seedF f j s j = ((f j).1, (f j).2.1, s, (f j).2.2.2) := if_pos rfl
      rw [h9]
      unfold exS
      simp [hk]
    · have h9 : seedF f i s j = f j := if_neg e
      rw [h9]
      exact exS_c j (f j) _ _ (h j hj) (fun k hk => ih k hk (by omega))
theorem seed_row {g : GF} {f : Nat → Ln} {i s t a w : Nat} (h : RowG g (seedF f i s) a w) (h1 : a < i) : RowG g (seedF f i t) a w := by
  intro v hv k hk
  rw [h v hv k hk]
  exact bt_cong (fun j hj => by unfold seedF setL; rw [if_neg (by omega), if_neg (by omega)]) _
theorem seed_row0 {g : GF} {f : Nat → Ln} {i s t a w : Nat} (h : RowG g (seedF f i s) a w) (hai : a ≠ i) (h0 : (f a).1 = 0) (hs : LnOk a (seedF f i s a)) (ht : LnOk a (seedF f i t a)) : RowG g (seedF f i t) a w := by
  intro v hv k hk
  have e1 : seedF f i s a = f a := if_neg hai
  have e2 : seedF f i t a = f a := if_neg hai
  rw [h v hv k hk, bt_0 hs (by rw [e1]; exact h0), bt_0 ht (by rw [e2]; exact h0), e1, e2]
/-- the spare bench with another seed -/
theorem seed_rep {c : CF} {z : Sg} {i s t : Nat} (h : RepB 2 c (z.1, z.2.1, seedF z.2.2 i s)) (hi : i < z.1) (hk : (z.2.2 i).1 = 0) : RepB 2 (up (up c (30 + 2) (3 * i) (nI (z.2.2 i).2.1)) (30 + 2) (3 * i + 1) (nI t)) (z.1, z.2.1, seedF z.2.2 i t) := by
  have h9 := RepB.src (x := (z.2.2 i).2.1) (y := t) (j := i) h (by decide) hi (by show (seedF z.2.2 i s i).1 = 0; unfold seedF setL; rw [if_pos rfl]; exact hk)
  have e : setL (seedF z.2.2 i s) i (0, (z.2.2 i).2.1, t, (seedF z.2.2 i s i).2.2.2) = seedF z.2.2 i t := by
    funext k
    unfold seedF setL
    by_cases q : k = i
    · subst q
      simp [hk]
    · simp [q]
  exact (show RepB 2 _ (z.1, z.2.1, setL (seedF z.2.2 i s) i (0, (z.2.2 i).2.1, t, (seedF z.2.2 i s i).2.2.2)) from h9) |> fun h => by rw [e] at h; exact h
theorem CopyOf.scr2 {c0 c : CF} (h : CopyOf 2 0 c0 c) : Scr c0 c := fun q i h1 h2 h3 h4 h5 h6 h7 h8 => h.2.2 q i (by omega) (by omega) h3 h4
theorem Scr.up {c0 c : CF} (h : Scr c0 c) {r i : Nat} {v : Int32} (hr : r = 22 ∨ r = 32 ∨ (r = 2 ∧ i = 2) ∨ (r = 1 ∧ i = 2) ∨ (r = 0 ∧ i = 4)) : Scr c0 (up c r i v) := by
  intro q j h1 h2 h3 h4 h5 h6 h7 h8
  rw [up_at, if_neg (by omega)]
  exact h q j h1 h2 h3 h4 h5 h6 h7 h8
theorem lastF_le (f : Nat → Ln) (j b : Nat) : ∀ t, lastF f j b t ≤ t
  | 0 => Nat.le_refl _
  | t + 1 => by
    unfold lastF
    split
    · exact Nat.le_refl _
    · have := lastF_le f j b t
      omega
theorem bst_le {f : Nat → Ln} {i j t : Nat} (h : ∀ s, 1 ≤ s → s ≤ 255 → errS f i j t s ≤ 65536) : ∀ k, k ≤ 254 → (bstF f i j t k).1 ≤ k + 1 ∧ (bstF f i j t k).2 ≤ 65536
  | 0, _ => ⟨Nat.le_refl _, h 1 (by decide) (by decide)⟩
  | k + 1, hk => by
    have h1 := bst_le h k (by omega)
    unfold bstF
    split
    · exact ⟨Nat.le_refl _, h (k + 2) (by omega) (by omega)⟩
    · exact ⟨by omega, h1.2⟩
theorem sumE_le {f : Nat → Ln} {t n : Nat} (h : ∀ j, j < n → errN f j t ≤ 65536) : sumE f t n ≤ 65536 * n := by
  induction n with
  | zero => exact Nat.le_refl _
  | succ n ih =>
    have h1 := ih (fun j hj => h j (by omega))
    have h2 := h n (by omega)
    show sumE f t n + errN f n t ≤ _
    omega
theorem cnt_suc (f : Nat → Ln) (j t : Nat) : cnt f j t + bN (bt f j t) = cnt f j (t + 1) := by
  unfold cnt bN
  rw [fb_ct_succ]
