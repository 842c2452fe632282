def NB (k w v x : Nat) : Prop := (v < w ∧ v ≤ npK k → loK k v ≤ x ∧ x ≤ hiK k v) ∧ (¬ (v < w ∧ v ≤ npK k) → x = 0)
def NL (k w : Nat) (q : Ln) : Prop := q.1 = k ∧ NB k w 1 q.2.1 ∧ NB k w 2 q.2.2.1 ∧ NB k w 3 q.2.2.2
theorem NB.next {k w v x : Nat} (h : NB k w v x) (hv : v ≠ w) : NB k (w + 1) v x := ⟨fun e => h.1 (by omega), fun e => h.2 (by omega)⟩
theorem NB.end_ {k w v x : Nat} (h : NB k w v x) (hw : npK k < w) : NB k 4 v x ∨ npK k ≥ 4 := by
  rcases Nat.lt_or_ge (npK k) 4 with h4 | h4
  · exact Or.inl ⟨fun e => h.1 (by omega), fun e => h.2 (by omega)⟩
  · exact Or.inr h4
theorem NL.set {k w v : Nat} {q : Ln} (h : NL k w q) (h1 : 1 ≤ w) (h3 : w ≤ npK k) (hn : npK k ≤ 3) (hv : loK k w ≤ v ∧ v ≤ hiK k w) : NL k (w + 1) (setN q w v) := by
  obtain ⟨a, b, c, d⟩ := h
  unfold setN
  rcases (show w = 1 ∨ w = 2 ∨ w = 3 by omega) with rfl | rfl | rfl
  · exact ⟨a, ⟨fun _ => hv, fun e => absurd ⟨by decide, h3⟩ e⟩, c.next (by decide), d.next (by decide)⟩
  · exact ⟨a, b.next (by decide), ⟨fun _ => hv, fun e => absurd ⟨by decide, h3⟩ e⟩, d.next (by decide)⟩
  · exact ⟨a, b.next (by decide), c.next (by decide), ⟨fun _ => hv, fun e => absurd ⟨by decide, h3⟩ e⟩⟩
theorem nums_rd {z : Tx} {k : Nat} (hn : npK k ≤ 3) : ∀ fu w p q r, 1 ≤ w → npK k + 1 ≤ w + fu → p ≤ z.1 → NL k w q → (nums z k fu w p q).1 = some r → NL k 4 r
  | 0, w, p, q, r, h1, hw, hp, h, e => by
    have e : some q = some r := e
    cases e
    obtain ⟨a, b, c, d⟩ := h
    exact ⟨a, (b.end_ (by omega)).resolve_right (by omega), (c.end_ (by omega)).resolve_right (by omega), (d.end_ (by omega)).resolve_right (by omega)⟩
  | fu + 1, w, p, q, r, h1, hw, hp, h, e => by
    unfold nums at e
    by_cases hk : npK k < w
    · rw [if_pos hk] at e
      cases e
      obtain ⟨a, b, c, d⟩ := h
      exact ⟨a, (b.end_ (by omega)).resolve_right (by omega), (c.end_ (by omega)).resolve_right (by omega), (d.end_ (by omega)).resolve_right (by omega)⟩
    · rw [if_neg hk] at e
      rcases bn_cases (lo := loK k w) (mo := hiK k w) hp (loK_hi k w).2.1 with ⟨h3, h4, h5⟩ | ⟨v, h3, h4, h5, h6, h7⟩
      · rw [show bn z (loK k w) (hiK k w) p = (none, (bn z (loK k w) (hiK k w) p).2) from Prod.ext h3 rfl] at e
        cases e
      · rw [show bn z (loK k w) (hiK k w) p = (some v, (bn z (loK k w) (hiK k w) p).2) from Prod.ext h3 rfl] at e
        exact nums_rd hn fu (w + 1) _ _ r (by omega) (by omega) h7 (h.set h1 (by omega) hn ⟨h5, h4⟩) e
theorem NL.rd : ∀ k, k < 7 → ∀ q, NL k 4 q → LnRd q := by
  intro k hk q h
  obtain ⟨a, ⟨b, b2⟩, ⟨c, c2⟩, ⟨d, d2⟩⟩ := h
  rcases (show k = 0 ∨ k = 1 ∨ k = 2 ∨ k = 3 ∨ k = 4 ∨ k = 5 ∨ k = 6 by omega) with rfl | rfl | rfl | rfl | rfl | rfl | rfl <;> simp [npK, loK, hiK, nlK] at b b2 c c2 d d2 <;> unfold LnRd <;> omega
theorem lin_rd {z : Tx} {a : Nat} {q : Ln} (ha : a ≤ z.1) (h : (lin z a).1 = some q) : LnRd q := by
  unfold lin at h
  rcases hk : kd z a with _ | k
  · rw [hk] at h
    cases h
  · rw [hk] at h
    have h : (if mt z a k = lnW k then nums z k 4 1 (a + mt z a k) (k, 0, 0, 0) else (none, a + mt z a k)).1 = some q := h
    have hk7 := kd_lt hk
    have h1 := mtc_in z a k (lnW k) 0 (by omega)
    by_cases hm : mt z a k = lnW k
    · rw [if_pos hm] at h
      have h3 := npK_le k hk7
      exact NL.rd k hk7 q (nums_rd h3.1 4 1 _ _ q (by decide) (by omega) h1 ⟨rfl, ⟨fun e => by omega, fun _ => rfl⟩, ⟨fun e => by omega, fun _ => rfl⟩, ⟨fun e => by omega, fun _ => rfl⟩⟩ h)
    · rw [if_neg hm] at h
      cases h
theorem allL_rd {z : Tx} : ∀ n p m f, p ≤ z.1 → (∀ j, j < m → LnRd (f j)) → ∀ j, j < (allL z n p m f).2.1 → LnRd ((allL z n p m f).2.2 j)
  | 0, p, m, f, hp, h, j, hj => h j hj
  | n + 1, p, m, f, hp, h, j, hj => by
    rcases hl : (lin z p).1 with _ | q
    · rw [allL_fault hl] at hj ⊢
      exact h j hj
    · have hq := lin_rd hp hl
      have hs : ∀ j, j < m + 1 → LnRd (if j = m then q else f j) := fun j hj => by
        split
        · exact hq
        · exact h j (by omega)
      by_cases h2 : (lin z p).2 = z.1
      · rw [allL_end hl h2] at hj ⊢
        exact hs j hj
      · by_cases h3 : (lin z p).2 < z.1 ∧ z.2 (lin z p).2 = 59
        · rw [allL_next hl h2 h3] at hj ⊢
          exact allL_rd n _ _ _ (by omega) hs j hj
        · rw [allL_stop hl h2 h3] at hj ⊢
          exact hs j hj
theorem ok_read {X : XS} (h : XOk X) : XOk (a_read X).2 := by
  unfold a_read
  rcases hr : (rdT X.2.2.2).1 with _ | p
  · show XOk (if _ then _ else if _ then _ else _ : Int32 × XS).2
    split
    · exact h
    · rename_i ha
      split
      · exact h
      · rename_i hn
        have ha := Decidable.of_not_not ha
        refine h.actd ⟨by show X.1.1 + (rdT X.2.2.2).2.1 ≤ 16; omega, h.1.2.1, h.1.2.2.1, fun j hj => ?_⟩
        have hj : j < X.1.1 + (rdT X.2.2.2).2.1 := hj
        show LnOk j (if j < X.1.1 then X.1.2.2 j else (rdT X.2.2.2).2.2 (j - X.1.1))
        split
        · rename_i e
          exact h.1.2.2.2 j e
        · have h9 := LnRd.ok (n := X.1.1) (allL_rd 81 0 0 (fun _ => (0, 0, 0, 0)) (Nat.zero_le _) (fun j hj => absurd hj (Nat.not_lt_zero j)) (j - X.1.1) (by show j - X.1.1 < (rdT X.2.2.2).2.1; omega)) (ha (j - X.1.1) (by omega))
          rw [show X.1.1 + (j - X.1.1) = j from by omega] at h9
          exact h9
  · exact h
theorem ok_q {X : XS} (h : XOk X) : (∀ x y, XOk (a_line X x y).2) ∧ (∀ x y, XOk (a_bit X x y).2) ∧ (∀ x y, XOk (a_overlap X x y).2) ∧ (∀ x y, XOk (a_errorAt X x y).2) ∧ (∀ x y, XOk (a_settles X x y).2) ∧ (∀ x y w, XOk (a_best X x y w).2) ∧ (∀ x, XOk (a_unlike X x).2) ∧ ∀ x, XOk (a_count X x).2 := by
  refine ⟨fun x y => ?_, fun x y => ?_, fun x y => ?_, fun x y => ?_, fun x y => ?_, fun x y w => ?_, fun x => ?_, fun x => ?_⟩
  · exact ok_L h fun _ _ => ok_R h (by decide) (by decide) fun _ _ _ => h
  · exact ok_L h fun _ _ => ok_R h (by decide) (by decide) fun _ _ _ => h
  · exact ok_L h fun _ _ => ok_L h fun _ _ => h
  · exact ok_L h fun _ _ => ok_R h (by decide) (by decide) fun _ _ _ => h
  · exact ok_L h fun _ _ => ok_R h (by decide) (by decide) fun _ _ _ => h
  · exact ok_L h fun _ _ => ok_L h fun _ _ => ok_R h (by decide) (by decide) fun _ _ _ => by
      show XOk (if _ then _ else _ : Int32 × XS).2
      split <;> exact h
  · exact ok_L h fun _ _ => h
  · exact ok_R h (by decide) (by decide) fun _ _ _ => h
theorem allL_n {z : Tx} : ∀ n p m f, p ≤ z.1 → 6 * m ≤ p → 6 * (allL z n p m f).2.1 ≤ z.1 + 6
  | 0, p, m, f, hp, h => by show 6 * m ≤ z.1 + 6; omega
  | n + 1, p, m, f, hp, h => by
    have h5 := lin_len hp
    rcases hl : (lin z p).1 with _ | q
    · rw [allL_fault hl]
      show 6 * m ≤ z.1 + 6
      omega
    · have h6 := h5.2 (by rw [hl]; rfl)
      by_cases h2 : (lin z p).2 = z.1
      · rw [allL_end hl h2]
        show 6 * (m + 1) ≤ z.1 + 6
        omega
      · by_cases h3 : (lin z p).2 < z.1 ∧ z.2 (lin z p).2 = 59
        · rw [allL_next hl h2 h3]
          exact allL_n n _ _ _ (by omega) (by omega)
        · rw [allL_stop hl h2 h3]
          show 6 * (m + 1) ≤ z.1 + 6
          omega
theorem rdT_n {z : Tx} (h : z.1 ≤ 80) : (rdT z).2.1 ≤ 14 := by
  have := allL_n (z := z) 81 0 0 (fun _ => (0, 0, 0, 0)) (Nat.zero_le _) (Nat.le_refl _)
  show (allL z 81 0 0 (fun _ => (0, 0, 0, 0))).2.1 ≤ 14
  omega
theorem rdT_rd (z : Tx) : ∀ j, j < (rdT z).2.1 → LnRd ((rdT z).2.2 j) := allL_rd 81 0 0 (fun _ => (0, 0, 0, 0)) (Nat.zero_le _) (fun j hj => absurd hj (Nat.not_lt_zero j))
/-! the w-th number of a line -/
def nthN (q : Ln) (w : Nat) : Nat := if w = 0 then q.2.1 else if w = 1 then q.2.2.1 else q.2.2.2
theorem RepL.nth {b n : Nat} {c : CF} {f : Nat → Ln} (h : RepL b c n f) {i w : Nat} (hi : i < n) (hw : w < 3) : c (30 + b) (3 * i + w) = nI (nthN (f i) w) := by
  have h3 := h.2 i hi
  rcases (show w = 0 ∨ w = 1 ∨ w = 2 by omega) with rfl | rfl | rfl
  · exact h3.2.1
  · exact h3.2.2.1
  · exact h3.2.2.2
theorem LnRd.nth {q : Ln} (h : LnRd q) (w : Nat) : nthN q w ≤ 256 := by
  have := h.2.2.2
  unfold nthN
  repeat' split
  all_goals omega
theorem nlK_le (k : Nat) : nlK k ≤ 3 := by
  rcases (show k = 0 ∨ k = 1 ∨ k = 2 ∨ k = 3 ∨ k = 4 ∨ k = 5 ∨ k = 6 ∨ 7 ≤ k by omega) with rfl | rfl | rfl | rfl | rfl | rfl | rfl | h
  all_goals first | decide | skip
  obtain ⟨d, rfl⟩ : ∃ d, k = d + 7 := ⟨k - 7, by omega⟩
  exact Nat.zero_le 3
theorem ahd_iff (n : Nat) (g : Nat → Ln) (k : Nat) : ahd n g k ↔ ∀ w, w < nlK (g k).1 → nthN (g k) w < n + k := by
  have h3 := nlK_le (g k).1
  refine ⟨fun h w hw => ?_, fun h => ⟨fun e => h 0 (by omega), fun e => h 1 (by omega), fun e => h 2 (by omega)⟩⟩
  rcases (show w = 0 ∨ w = 1 ∨ w = 2 by omega) with rfl | rfl | rfl
  · exact h.1 (by omega)
  · exact h.2.1 (by omega)
  · exact h.2.2 (by omega)
theorem PushP.spare {o zz m : Nat} {c0 c : CF} {g : Nat → Ln} (h : PushP o zz c0 c) (hR : RepL 2 c0 m g) : RepL 2 c m g := by
  obtain ⟨c1, hc, e⟩ := h
  have h1 : RepL 2 c1 m g := hR.keep (hc.2.2 _ _ (by omega) (by omega) (by omega) (by omega)) (fun i => hc.2.2 _ _ (by omega) (by omega) (by omega) (by omega)) (fun i => hc.2.2 _ _ (by omega) (by omega) (by omega) (by omega))
  split at e <;> subst e <;> exact h1.keep (by rw [up_at, if_neg (by omega)]) (fun j => by rw [up_at, if_neg (by omega)]) (fun j => by rw [up_at, if_neg (by omega)])
theorem keep_rep {c0 c : CF} {X : XS} (h : RepC c0 X) (hX : XOk X) (hc : CopyOf 1 0 c0 c) : RepC (up c 0 0 (nI 1)) (a_keep X).2 ∧ SameM c0 (up c 0 0 (nI 1)) := by
  obtain ⟨h1, ⟨o, h2⟩, -, h5⟩ := h
  refine ⟨⟨(hc.oth (by decide) (by decide) (by decide) h1).up0, ⟨o, h2.1, ?_, ?_, fun i hi => (hc.oth (b3 := 3 + (o + i) % 4) (by decide) (by omega) (by omega) (h2.2.2.2 i hi)).up0⟩, ⟨up_s _ _ _ _, fun _ => (hc.rep h1 hX.1.1).up0⟩, (h5.copy hc (by decide)).keep ?_ (fun j => ?_)⟩, (hc.m (by decide)).up (by decide)⟩
  · rw [up_at, if_neg (by omega), hc.z]
    exact h2.2.1
  · rw [up_at, if_neg (by omega), hc.z]
    exact h2.2.2.1
  · rw [up_at, if_neg (by omega)]
  · rw [up_at, if_neg (by omega)]
/-- only the text is another one -/
theorem text_rep {c0 c : CF} {X : XS} {z : Tx} (h : RepC c0 X) (hk : ∀ q i, q ≠ 6 → ¬ (q = 0 ∧ i = 3) → c q i = c0 q i) (hz : TxC c z) : RepC c (X.1, X.2.1, X.2.2.1, z) ∧ SameM c0 c := by
  obtain ⟨h1, ⟨o, h2⟩, ⟨h3, h4⟩, h5⟩ := h
  refine ⟨⟨h1.keep ?_ ?_ (fun j => ?_) (fun j => ?_), ⟨o, h2.1, (hk _ _ (by omega) (by omega)).trans h2.2.1, (hk _ _ (by omega) (by omega)).trans h2.2.2.1, fun i hi => (h2.2.2.2 i hi).keep ?_ ?_ (fun j => ?_) (fun j => ?_)⟩, ⟨(hk _ _ (by omega) (by omega)).trans h3, fun e => (h4 e).keep ?_ ?_ (fun j => ?_) (fun j => ?_)⟩, hz⟩, fun q i hq => ?_⟩ <;> exact hk _ _ (by omega) (by omega)
theorem type_tx {c : CF} {z : Tx} {ch : Nat} (h : TxC c z) (hz : z.1 < 80) (hc : ch < 65536) : TxC (up (up c 6 z.1 (nI ch)) 0 3 (nI (z.1 + 1))) (z.1 + 1, fun i => if i = z.1 then ch else z.2 i) := by
  refine ⟨up_s _ _ _ _, by show z.1 + 1 ≤ 80; omega, fun i hi => ?_⟩
  have hi : i < z.1 + 1 := hi
  show up (up c 6 z.1 (nI ch)) 0 3 (nI (z.1 + 1)) 6 i = nI (if i = z.1 then ch else z.2 i) ∧ (if i = z.1 then ch else z.2 i) < 65536
  rw [up_at, if_neg (by omega), up_at]
  by_cases e : i = z.1
  · rw [if_pos ⟨rfl, e⟩, if_pos e]
    exact ⟨rfl, hc⟩
  · rw [if_neg (fun q => e q.2), if_neg e]
    exact h.2.2 i (by omega)
theorem allL_p {z : Tx} : ∀ n p m f q, p ≤ z.1 → (allL z n p m f).1 = some q → q ≤ z.1
  | 0, p, m, f, q, hp, e => by
    have e : some p = some q := e
    cases e
    exact hp
  | n + 1, p, m, f, q, hp, e => by
    have h5 := lin_len hp
    rcases hl : (lin z p).1 with _ | r
    · rw [allL_fault hl] at e
      have e : some (lin z p).2 = some q := e
      cases e
      exact h5.1
    · by_cases h2 : (lin z p).2 = z.1
      · rw [allL_end hl h2] at e
        cases e
      · by_cases h3 : (lin z p).2 < z.1 ∧ z.2 (lin z p).2 = 59
        · rw [allL_next hl h2 h3] at e
          exact allL_p n _ _ _ q (by omega) e
        · rw [allL_stop hl h2 h3] at e
          have e : some (lin z p).2 = some q := e
          cases e
          exact h5.1
theorem pf_lt {z : Tx} {p : Nat} (h : (rdT z).1 = some p) : p ≤ z.1 := allL_p 81 0 0 (fun _ => (0, 0, 0, 0)) p (Nat.zero_le _) h
