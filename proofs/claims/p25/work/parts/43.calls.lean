/-! what the calls answer where the property makes them -/
theorem ixO_in {n j : Nat} (h : j < n) (hn : n < 2 ^ 31) : ixO n (nI j) = some j := by
  unfold ixO
  rw [if_pos ⟨nlt_le (nI_nn (by omega)), (nI_ltI (by omega) hn).mpr h⟩, nI_clamp (by omega)]
theorem ixO_out {n j : Nat} (h : n ≤ j) (hj : j < 2 ^ 31) : ixO n (nI j) = none := ixO_none (fun q => absurd ((nI_ltI hj (by omega)).mp q.2) (by omega))
theorem rgO_in {a b j : Nat} (h1 : a ≤ j) (h2 : j ≤ b) (hb : b < 2 ^ 31) : rgO a b (nI j) = some j := by
  unfold rgO
  rw [if_pos ⟨(nI_leI (by omega) (by omega)).mpr h1, (nI_leI (by omega) hb).mpr h2⟩, nI_clamp (by omega)]
abbrev QP (A : Int32 × XS) (r : Int32) (c d : CF) : Prop := r = A.1 ∧ RepC d A.2 ∧ SameM c d
theorem QP.of {A : Int32 × XS} {r x : Int32} {c d : CF} {Z : XS} (h : QP A r c d) (e : A = (x, Z)) : r = x ∧ RepC d Z := by
  subst e
  exact ⟨h.1, h.2.1⟩
theorem QP.ok {A : Int32 × XS} {r x : Int32} {c d : CF} {Z : XS} (h : QP A r c d) (e : A = (x, Z)) (ok : XOk A.2) : r = x ∧ RepC d Z ∧ XOk Z := by
  subst e
  exact ⟨h.1, h.2.1, ok⟩
section QQ
variable {X : XS} {r : Int32} {c d : CF}
theorem q_line {j k : Nat} (h : QP (a_line X (nI j) (nI k)) r c d) (hX : XOk X) (hj : j < X.1.1) (hk : k ≤ 9) : r = tellN X j k ∧ RepC d X := h.of (by
  have := hX.1.1
  unfold a_line
  rw [withL_s (ixO_in hj (by omega)), withR_s (rgO_in (Nat.zero_le _) hk (by decide))])
theorem u_line {j : Nat} {y : Int32} (h : QP (a_line X (nI j) y) r c d) (hj : X.1.1 ≤ j) (hj2 : j < 2 ^ 31) : r = UNK ∧ RepC d X := h.of (by
  unfold a_line
  rw [withL_n (ixO_out hj hj2)])
theorem q_count {k : Nat} (h : QP (a_count X (nI k)) r c d) (hk : k ≤ 7) : r = cntN X k ∧ RepC d X := h.of (by
  unfold a_count
  rw [withR_s (rgO_in (Nat.zero_le _) hk (by decide))])
theorem q_bit {j t : Nat} (h : QP (a_bit X (nI j) (nI t)) r c d) (hX : XOk X) (hj : j < X.1.1) (ht : t ≤ 999) : r = nI (bN (bt X.1.2.2 j t)) ∧ RepC d X := h.of (by
  have := hX.1.1
  unfold a_bit
  rw [withL_s (ixO_in hj (by omega)), withR_s (rgO_in (Nat.zero_le _) ht (by decide))])
theorem q_overlap {i j : Nat} (h : QP (a_overlap X (nI i) (nI j)) r c d) (hX : XOk X) (hi : i < X.1.1) (hj : j < X.1.1) : r = ovl X.1.2.2 i j X.1.2.1 ∧ RepC d X := h.of (by
  have := hX.1.1
  unfold a_overlap
  rw [withL_s (ixO_in hi (by omega)), withL_s (ixO_in hj (by omega))])
theorem q_errorAt {j t : Nat} (h : QP (a_errorAt X (nI j) (nI t)) r c d) (hX : XOk X) (hj : j < X.1.1) (h1 : 1 ≤ t) (ht : t ≤ 1000) : r = nI (errN X.1.2.2 j t) ∧ RepC d X := h.of (by
  have := hX.1.1
  unfold a_errorAt
  rw [withL_s (ixO_in hj (by omega)), withR_s (rgO_in h1 ht (by decide))])
theorem q_settles {j b : Nat} (h : QP (a_settles X (nI j) (nI b)) r c d) (hX : XOk X) (hj : j < X.1.1) (hb : b ≤ 65536) (hl : lastF X.1.2.2 j b 1000 ≤ 999) : r = nI (lastF X.1.2.2 j b 1000 + 1) ∧ RepC d X := h.of (by
  have := hX.1.1
  unfold a_settles
  rw [withL_s (ixO_in hj (by omega)), withR_s (rgO_in (Nat.zero_le _) hb (by decide)), if_neg (by omega)])
theorem q_unlike {j : Nat} (h : QP (a_unlike X (nI j)) r c d) (hX : XOk X) (hj : j < X.1.1) : r = nI (unlF X.1.2.2 j 195) ∧ RepC d X := h.of (by
  have := hX.1.1
  unfold a_unlike
  rw [withL_s (ixO_in hj (by omega))])
/-! acts -/
def addS (X : XS) (q : Ln) : XS := actd X (X.1.1 + 1, X.1.2.1, fun j => if j = X.1.1 then q else X.1.2.2 j)
def dropS (X : XS) : XS := actd X (X.1.1 - 1, X.1.2)
def seedS (X : XS) (i a b : Nat) : XS := actd X (X.1.1, X.1.2.1, setL X.1.2.2 i (0, a, b, (X.1.2.2 i).2.2.2))
def lenS (X : XS) (n : Nat) : XS := actd X (X.1.1, n, X.1.2.2)
theorem addL_in (q : Ln) (h : X.1.1 < 16) : addL X q = (nI X.1.1, addS X q) := by
  unfold addL addS
  rw [if_neg (by omega)]
theorem t_source {m a b : Nat} (h : QP (a_source X (nI a) (nI b)) r c d) (hX : XOk X) (hm : X.1.1 = m) (h16 : m < 16) (ha : a ≤ 256) (hb1 : 1 ≤ b) (hb : b ≤ 255) : r = nI m ∧ RepC d (addS X (0, a, b, 0)) ∧ XOk (addS X (0, a, b, 0)) := h.ok (by
  unfold a_source
  rw [withR_s (rgO_in (Nat.zero_le _) ha (by decide)), withR_s (rgO_in hb1 hb (by decide)), addL_in _ (by omega), hm]) (ok_source hX _ _)
theorem t_gate {m k i j : Nat} (h : QP (a_gate X (nI k) (nI i) (nI j)) r c d) (hX : XOk X) (hm : X.1.1 = m) (h16 : m < 16) (hk1 : 1 ≤ k) (hk : k ≤ 3) (hi : i < m) (hj : j < m) : r = nI m ∧ RepC d (addS X (k, i, j, 0)) ∧ XOk (addS X (k, i, j, 0)) := h.ok (by
  unfold a_gate
  rw [withL_s (ixO_in (by omega) (by omega)), withL_s (ixO_in (by omega) (by omega)), withR_s (rgO_in hk1 hk (by decide)), addL_in _ (by omega), hm]) (ok_gate hX _ _ _)
theorem u_gate {i j : Nat} {k : Int32} (h : QP (a_gate X k (nI i) (nI j)) r c d) (hX : XOk X) (hi : i ≤ X.1.1) (hj : j ≤ X.1.1) (he : i = X.1.1 ∨ j = X.1.1) : r = UNK ∧ RepC d X := h.of (by
  have := hX.1.1
  unfold a_gate
  by_cases e : i = X.1.1
  · rw [withL_n (ixO_out (by omega) (by omega))]
  · rw [withL_s (ixO_in (by omega) (by omega)), withL_n (ixO_out (by omega) (by omega))])
theorem t_choose {m i j k : Nat} (h : QP (a_choose X (nI i) (nI j) (nI k)) r c d) (hX : XOk X) (hm : X.1.1 = m) (h16 : m < 16) (hi : i < m) (hj : j < m) (hk : k < m) : r = nI m ∧ RepC d (addS X (4, i, j, k)) ∧ XOk (addS X (4, i, j, k)) := h.ok (by
  unfold a_choose
  rw [withL_s (ixO_in (by omega) (by omega)), withL_s (ixO_in (by omega) (by omega)), withL_s (ixO_in (by omega) (by omega)), addL_in _ (by omega), hm]) (ok_choose hX _ _ _)
theorem u_choose {i j k : Nat} (h : QP (a_choose X (nI i) (nI j) (nI k)) r c d) (hX : XOk X) (hi : i ≤ X.1.1) (hj : j ≤ X.1.1) (hk : k ≤ X.1.1) (he : i = X.1.1 ∨ j = X.1.1 ∨ k = X.1.1) : r = UNK ∧ RepC d X := h.of (by
  have := hX.1.1
  unfold a_choose
  by_cases e : i = X.1.1
  · rw [withL_n (ixO_out (by omega) (by omega))]
  · by_cases e2 : j = X.1.1
    · rw [withL_s (ixO_in (by omega) (by omega)), withL_n (ixO_out (by omega) (by omega))]
    · rw [withL_s (ixO_in (by omega) (by omega)), withL_s (ixO_in (by omega) (by omega)), withL_n (ixO_out (by omega) (by omega))])
theorem t_turn {m i : Nat} (h : QP (a_turn X (nI i)) r c d) (hX : XOk X) (hm : X.1.1 = m) (h16 : m < 16) (hi : i < m) : r = nI m ∧ RepC d (addS X (5, i, 0, 0)) ∧ XOk (addS X (5, i, 0, 0)) := h.ok (by
  unfold a_turn
  rw [withL_s (ixO_in (by omega) (by omega)), addL_in _ (by omega), hm]) (ok_turn hX _)
theorem u_turn {i : Nat} (h : QP (a_turn X (nI i)) r c d) (hX : XOk X) (he : i = X.1.1) : r = UNK ∧ RepC d X := h.of (by
  have := hX.1.1
  unfold a_turn
  rw [withL_n (ixO_out (by omega) (by omega))])
theorem t_delay {m i k : Nat} (h : QP (a_delay X (nI i) (nI k)) r c d) (hX : XOk X) (hm : X.1.1 = m) (h16 : m < 16) (hi : i < m) (hk1 : 1 ≤ k) (hk : k ≤ 60) : r = nI m ∧ RepC d (addS X (6, i, k, 0)) ∧ XOk (addS X (6, i, k, 0)) := h.ok (by
  unfold a_delay
  rw [withL_s (ixO_in (by omega) (by omega)), withR_s (rgO_in hk1 hk (by decide)), addL_in _ (by omega), hm]) (ok_delay hX _ _)
theorem u_delay {i : Nat} {y : Int32} (h : QP (a_delay X (nI i) y) r c d) (hX : XOk X) (he : i = X.1.1) : r = UNK ∧ RepC d X := h.of (by
  have := hX.1.1
  unfold a_delay
  rw [withL_n (ixO_out (by omega) (by omega))])
theorem t_removeLast {m : Nat} (h : QP (a_removeLast X) r c d) (hX : XOk X) (hm : X.1.1 = m + 1) : r = nI m ∧ RepC d (dropS X) ∧ XOk (dropS X) := h.ok (by
  unfold a_removeLast dropS
  rw [if_neg (by omega), show X.1.1 - 1 = m from by omega]) (ok_removeLast hX)
theorem u_reseed {i : Nat} {y w : Int32} (h : QP (a_reseed X (nI i) y w) r c d) (hX : XOk X) (he : i = X.1.1) : r = UNK ∧ RepC d X := h.of (by
  have := hX.1.1
  unfold a_reseed
  rw [withL_n (ixO_out (by omega) (by omega))])
theorem t_reseed_np {i a b : Nat} (h : QP (a_reseed X (nI i) (nI a) (nI b)) r c d) (hX : XOk X) (hi : i < X.1.1) (ha : a ≤ 256) (hb1 : 1 ≤ b) (hb : b ≤ 255) (hk : (X.1.2.2 i).1 ≠ 0) : r = NPO ∧ RepC d X := h.of (by
  have := hX.1.1
  unfold a_reseed
  rw [withL_s (ixO_in hi (by omega)), withR_s (rgO_in (Nat.zero_le _) ha (by decide)), withR_s (rgO_in hb1 hb (by decide)), if_pos hk])
theorem t_reseed_no {i a b : Nat} (h : QP (a_reseed X (nI i) (nI a) (nI b)) r c d) (hX : XOk X) (hi : i < X.1.1) (ha : a ≤ 256) (hb1 : 1 ≤ b) (hb : b ≤ 255) (hk : (X.1.2.2 i).1 = 0) (he : (X.1.2.2 i).2.1 = a ∧ (X.1.2.2 i).2.2.1 = b) : r = NON ∧ RepC d X := h.of (by
  have := hX.1.1
  unfold a_reseed
  rw [withL_s (ixO_in hi (by omega)), withR_s (rgO_in (Nat.zero_le _) ha (by decide)), withR_s (rgO_in hb1 hb (by decide)), if_neg (fun q => q hk), if_pos he])
theorem t_reseed {i a b : Nat} (h : QP (a_reseed X (nI i) (nI a) (nI b)) r c d) (hX : XOk X) (hi : i < X.1.1) (ha : a ≤ 256) (hb1 : 1 ≤ b) (hb : b ≤ 255) (hk : (X.1.2.2 i).1 = 0) (he : ¬ ((X.1.2.2 i).2.1 = a ∧ (X.1.2.2 i).2.2.1 = b)) : r = nI (X.1.2.2 i).2.1 ∧ RepC d (seedS X i a b) ∧ XOk (seedS X i a b) := h.ok (by
  have := hX.1.1
  unfold a_reseed seedS
  rw [withL_s (ixO_in hi (by omega)), withR_s (rgO_in (Nat.zero_le _) ha (by decide)), withR_s (rgO_in hb1 hb (by decide)), if_neg (fun q => q hk), if_neg he]) (ok_reseed hX _ _ _)
theorem t_setLength_no {n : Nat} (h : QP (a_setLength X (nI n)) r c d) (h1 : 1 ≤ n) (hn : n ≤ 1000) (he : X.1.2.1 = n) : r = NON ∧ RepC d X := h.of (by
  unfold a_setLength
  rw [withR_s (rgO_in h1 hn (by decide)), if_pos he])
theorem t_setLength {n : Nat} (h : QP (a_setLength X (nI n)) r c d) (hX : XOk X) (h1 : 1 ≤ n) (hn : n ≤ 1000) (he : X.1.2.1 ≠ n) : r = nI X.1.2.1 ∧ RepC d (lenS X n) ∧ XOk (lenS X n) := h.ok (by
  unfold a_setLength lenS
  rw [withR_s (rgO_in h1 hn (by decide)), if_neg he]) (ok_setLength hX _)
end QQ
/-! the two benches go together -/
def Rl (X Y : XS) : Prop := XOk X ∧ XOk Y ∧ X.1.1 ≤ 8 ∧ Y.1.1 = 2 * X.1.1 ∧ Y.1.2.1 = X.1.2.1 ∧ ∀ k, k < X.1.1 → Pr (X.1.2.2 k) (Y.1.2.2 (2 * k)) ∧ Tu (Y.1.2.2 (2 * k + 1)) k
theorem addS_at (X : XS) (q : Ln) (k : Nat) : (addS X q).1.2.2 k = if k = X.1.1 then q else X.1.2.2 k := rfl
theorem addS_n (X : XS) (q : Ln) : (addS X q).1.1 = X.1.1 + 1 := rfl
theorem addS_len (X : XS) (q : Ln) : (addS X q).1.2.1 = X.1.2.1 := rfl
theorem dropS_n (X : XS) : (dropS X).1.1 = X.1.1 - 1 := rfl
theorem Rl.add {X Y : XS} {q r t : Ln} (h : Rl X Y) (h8 : X.1.1 < 8) (hp : Pr q r) (ht : Tu t X.1.1) (hX : XOk (addS X q)) (hY : XOk (addS (addS Y r) t)) : Rl (addS X q) (addS (addS Y r) t) := by
  obtain ⟨-, -, h3, h4, h5, h6⟩ := h
  refine ⟨hX, hY, by rw [addS_n]; omega, by rw [addS_n, addS_n, addS_n]; omega, by rw [addS_len, addS_len, addS_len]; exact h5, fun k hk => ?_⟩
  rw [addS_n] at hk
  rw [addS_at, addS_at, addS_at, addS_at, addS_at, addS_n]
  by_cases e : k = X.1.1
  · rw [if_pos e, if_neg (by omega), if_pos (by omega), if_pos (by omega), e]
    exact ⟨hp, ht⟩
  · rw [if_neg e, if_neg (by omega), if_neg (by omega), if_neg (by omega), if_neg (by omega)]
    exact h6 k (by omega)
theorem Rl.drop {X Y : XS} (h : Rl X Y) (h1 : 1 ≤ X.1.1) (hX : XOk (dropS X)) (hY : XOk (dropS (dropS Y))) : Rl (dropS X) (dropS (dropS Y)) := by
  obtain ⟨-, -, h3, h4, h5, h6⟩ := h
  refine ⟨hX, hY, by rw [dropS_n]; omega, by rw [dropS_n, dropS_n, dropS_n]; omega, h5, fun k hk => ?_⟩
  rw [dropS_n] at hk
  exact h6 k (by omega)
/-- two lines added to the second bench and removed again -/
theorem Rl.back {X Y : XS} {r t : Ln} (h : Rl X Y) (hY : XOk (dropS (dropS (addS (addS Y r) t)))) : Rl X (dropS (dropS (addS (addS Y r) t))) := by
  obtain ⟨h1, -, h3, h4, h5, h6⟩ := h
  refine ⟨h1, hY, h3, by rw [dropS_n, dropS_n, addS_n, addS_n]; omega, h5, fun k hk => ?_⟩
  have e : ∀ i, (dropS (dropS (addS (addS Y r) t))).1.2.2 i = (addS (addS Y r) t).1.2.2 i := fun _ => rfl
  rw [e, e, addS_at, addS_at, addS_at, addS_at, addS_n, if_neg (by omega), if_neg (by omega), if_neg (by omega), if_neg (by omega)]
  exact h6 k hk
theorem Rl.len {X Y : XS} {n : Nat} (h : Rl X Y) (hX : XOk (lenS X n)) (hY : XOk (lenS Y n)) : Rl (lenS X n) (lenS Y n) := by
  obtain ⟨-, -, h3, h4, h5, h6⟩ := h
  exact ⟨hX, hY, h3, h4, rfl, h6⟩
theorem Rl.seed {X Y : XS} {i a b : Nat} (h : Rl X Y) (hi : i < X.1.1) (hk : (X.1.2.2 i).1 = 0) (hX : XOk (seedS X i a b)) (hY : XOk (seedS Y (2 * i) a b)) : Rl (seedS X i a b) (seedS Y (2 * i) a b) := by
  obtain ⟨-, -, h3, h4, h5, h6⟩ := h
  refine ⟨hX, hY, h3, h4, h5, fun k hk2 => ?_⟩
  have e1 : ∀ j, (seedS X i a b).1.2.2 j = if j = i then (0, a, b, (X.1.2.2 i).2.2.2) else X.1.2.2 j := fun _ => rfl
  have e2 : ∀ j, (seedS Y (2 * i) a b).1.2.2 j = if j = 2 * i then (0, a, b, (Y.1.2.2 (2 * i)).2.2.2) else Y.1.2.2 j := fun _ => rfl
  have hk3 : k < X.1.1 := hk2
  have h7 := h6 k hk3
  rw [e1, e2, e2, if_neg (show ¬ 2 * k + 1 = 2 * i by omega)]
  by_cases e : k = i
  · rw [if_pos e, if_pos (by omega)]
    refine ⟨?_, h7.2⟩
    unfold Pr
    refine ⟨rfl, fun _ => ⟨rfl, rfl⟩, fun q => ?_, fun q => ?_, fun q => ?_, fun q => ?_, fun q => ?_⟩ <;> simp at q
  · rw [if_neg e, if_neg (by omega)]
    exact h7
theorem Rl.bits {X Y : XS} (h : Rl X Y) {k : Nat} (hk : k < X.1.1) : (∀ t, bt Y.1.2.2 (2 * k) t = bt X.1.2.2 k t) ∧ ∀ t, bt Y.1.2.2 (2 * k + 1) t = !bt X.1.2.2 k t := by
  have h9 := rel_bits (n := X.1.1) h.1.1.2.2.2 (fun j hj => h.2.1.1.2.2.2 j (by rw [h.2.2.2.1]; exact hj)) h.2.2.2.2.2 k hk
  exact ⟨fun t => (h9 t).1, fun t => (h9 t).2⟩
/-- what isTurned asks -/
theorem Rl.turned {X Y : XS} (h : Rl X Y) {k : Nat} (hk : k < X.1.1) : cnt Y.1.2.2 (2 * k) Y.1.2.1 = cnt X.1.2.2 k X.1.2.1 ∧ cnt Y.1.2.2 (2 * k + 1) Y.1.2.1 = X.1.2.1 - cnt X.1.2.2 k X.1.2.1 ∧ ex Y.1.2.2 (2 * k + 1) = 65536 - ex Y.1.2.2 (2 * k) ∧ unlF Y.1.2.2 (2 * k + 1) 195 = unlF X.1.2.2 k 195 ∧ ovl X.1.2.2 k k X.1.2.1 = - ovl Y.1.2.2 (2 * k) (2 * k + 1) Y.1.2.1 := by
  obtain ⟨b1, b2⟩ := h.bits hk
  have hl1 := h.1.1.2.1
  have hl2 := h.1.1.2.2.1
  have e := h.2.2.2.2.1
  have ht := (h.2.2.2.2.2 k hk).2
  rw [e]
  refine ⟨cnt_same b1 _, ?_, ex_turn (h.2.1.1.2.2.2 _ (by rw [h.2.2.2.1]; omega)) ht.1 ht.2, unl_not b2 _, ovl_turn hl1 hl2 b1 b2⟩
  have := cnt_not b2 X.1.2.1
  omega
/-- what a gate and the turned one of its turned lines' opposite gate ask -/
theorem Rl.gate {X Y : XS} {i j k : Nat} (h : Rl X Y) (h8 : X.1.1 < 8) (hk : k = 1 ∨ k = 2) (hi : i < X.1.1) (hj : j < X.1.1) (hX : XOk (addS X (k, i, j, 0))) (hY : XOk (addS (addS Y (3 - k, 2 * i + 1, 2 * j + 1, 0)) (5, 2 * X.1.1, 0, 0))) : (∀ t, bt (addS (addS Y (3 - k, 2 * i + 1, 2 * j + 1, 0)) (5, 2 * X.1.1, 0, 0)).1.2.2 (2 * X.1.1) t = !bt (addS X (k, i, j, 0)).1.2.2 X.1.1 t) ∧ ∀ t, bt (addS (addS Y (3 - k, 2 * i + 1, 2 * j + 1, 0)) (5, 2 * X.1.1, 0, 0)).1.2.2 (2 * X.1.1 + 1) t = bt (addS X (k, i, j, 0)).1.2.2 X.1.1 t := by
  have hn := h.2.2.2.1
  obtain ⟨Z, eZ⟩ : ∃ Z, Z = addS (addS Y (3 - k, 2 * i + 1, 2 * j + 1, 0)) (5, 2 * X.1.1, 0, 0) := ⟨_, rfl⟩
  obtain ⟨V, eV⟩ : ∃ V, V = addS X (k, i, j, 0) := ⟨_, rfl⟩
  have zat : ∀ a, Z.1.2.2 a = if a = Y.1.1 + 1 then (5, 2 * X.1.1, 0, 0) else if a = Y.1.1 then (3 - k, 2 * i + 1, 2 * j + 1, 0) else Y.1.2.2 a := fun a => by rw [eZ]; rfl
  have vat : ∀ a, V.1.2.2 a = if a = X.1.1 then (k, i, j, 0) else X.1.2.2 a := fun a => by rw [eV]; rfl
  have zn : Z.1.1 = Y.1.1 + 1 + 1 := by rw [eZ]; rfl
  have vn : V.1.1 = X.1.1 + 1 := by rw [eV]; rfl
  rw [← eZ, ← eV]
  rw [← eZ] at hY
  rw [← eV] at hX
  have low : ∀ a, a < X.1.1 → ∀ t, bt Z.1.2.2 (2 * a + 1) t = !bt V.1.2.2 a t := fun a ha t => by
    have e1 : bt Z.1.2.2 (2 * a + 1) t = bt Y.1.2.2 (2 * a + 1) t := bt_cong (fun b hb => by rw [zat, if_neg (by omega), if_neg (by omega)]) t
    have e2 : bt V.1.2.2 a t = bt X.1.2.2 a t := bt_cong (fun b hb => by rw [vat, if_neg (by omega)]) t
    rw [e1, e2]
    exact (h.bits ha).2 t
  have hv : V.1.2.2 X.1.1 = (k, i, j, 0) := by rw [vat, if_pos rfl]
  have hz : Z.1.2.2 (2 * X.1.1) = (3 - k, 2 * i + 1, 2 * j + 1, 0) := by rw [zat, if_neg (by omega), if_pos (by omega)]
  have hw : Z.1.2.2 (2 * X.1.1 + 1) = (5, 2 * X.1.1, 0, 0) := by rw [zat, if_pos (by omega)]
  have main : ∀ t, bt Z.1.2.2 (2 * X.1.1) t = !bt V.1.2.2 X.1.1 t := fun t =>
    gate_turn (hX.1.2.2.2 _ (by omega)) (hY.1.2.2.2 _ (by omega)) (low i hi) (low j hj) hk (by rw [hv]; exact ⟨rfl, rfl, rfl⟩) (by rw [hz]; exact ⟨rfl, rfl, rfl⟩) t
  refine ⟨main, fun t => ?_⟩
  rw [bt_5 (hY.1.2.2.2 _ (by omega)) (by rw [hw]), show (Z.1.2.2 (2 * X.1.1 + 1)).2.1 = 2 * X.1.1 from by rw [hw], main]
  simp
