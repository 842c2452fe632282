theorem last_eq {f : Nat → Ln} {j b n : Nat} : ∀ t, n ≤ t → (∀ m, n < m → m ≤ t → errN f j m ≤ b) → (n = 0 ∨ b < errN f j n) → lastF f j b t = n
  | 0, h, _, _ => by
    show 0 = n
    omega
  | t + 1, h, h1, h2 => by
    unfold lastF
    by_cases e : n = t + 1
    · rw [if_pos]
      · exact e.symm
      · rw [← e]
        rcases h2 with h2 | h2
        · omega
        · exact h2
    · rw [if_neg (by have := h1 (t + 1) (by omega) (Nat.le_refl _); omega)]
      exact last_eq t (by omega) (fun m a b => h1 m a (by omega)) h2
theorem cnt_pre (f : Nat → Ln) (j n : Nat) (h : 1 ≤ n) : cnt f j n - bN (bt f j (n - 1)) = cnt f j (n - 1) := by
  have := cnt_suc f j (n - 1)
  rw [show n - 1 + 1 = n from by omega] at this
  omega
theorem BitM.keep {f : Nat → Ln} {a T : Nat} {c c' : CF} (h : BitM f a T c) (hk : ∀ i, c' 45 i = c 45 i) : BitM f a T c' := fun s hs => (hk _).trans (h s hs)
theorem bN_and (a b : Bool) : bN a &&& bN b = bN (a && b) := by cases a <;> cases b <;> rfl
theorem both_suc (f : Nat → Ln) (i j t : Nat) : both f i j t + bN (bt f i t && bt f j t) = both f i j (t + 1) := by
  unfold both bN
  rw [fb_ct_succ]
/-- as ScrM, and the row of lines aside -/
def ScrA (c c' : CF) : Prop := ∀ q i, q ≠ 41 → q ≠ 42 → q ≠ 45 → q ≠ 46 → q ≠ 47 → q ≠ 49 → q ≠ 50 → q ≠ 51 → ¬ (q = 40 ∧ (i = 3 ∨ i = 4 ∨ i = 5)) → c' q i = c q i
theorem ScrA.rf (c : CF) : ScrA c c := fun _ _ _ _ _ _ _ _ _ _ _ => rfl
theorem ScrA.qo {a b c : CF} (h : ScrA a b) (h2 : QO b c) : ScrA a c := fun q i h1 h3 h4 h5 h6 h7 h8 h9 h10 => (h2 q i h4 h5 h6).trans (h q i h1 h3 h4 h5 h6 h7 h8 h9 h10)
theorem ScrA.up {a c : CF} (h : ScrA a c) {i : Nat} {v : Int32} : ScrA a (up c 41 i v) := fun q k h1 h3 h4 h5 h6 h7 h8 h9 h10 => by
  rw [up_at, if_neg (by omega)]
  exact h q k h1 h3 h4 h5 h6 h7 h8 h9 h10
theorem ScrA.rep {c c' : CF} {X : XS} (h : RepM c X) (hX : XOk X) (hs : ScrA c c') (hA : RowM c' 41 0 X.1) : RepM c' X ∧ SameC c c' := by
  obtain ⟨h1, h2, ⟨h3, h4⟩, h5⟩ := h
  have hk : ∀ q i, (q < 40 ∨ q = 43 ∨ q = 44 ∨ q = 48 ∨ (q = 40 ∧ i ≤ 2)) → c' q i = c q i := fun q i hq => hs q i (by omega) (by omega) (by omega) (by omega) (by omega) (by omega) (by omega) (by omega) (by omega)
  exact ⟨⟨hA, h2.keep hX.2.1 (hk _ _ (by omega)) (fun i => hk _ _ (by omega)), ⟨(hk _ _ (by omega)).trans h3, fun e => (h4 e).keep (hX.2.2.1.2 e).1 fun i _ _ => hk _ _ (by omega)⟩, h5.keep (hk _ _ (by omega)) (fun i => hk _ _ (by omega))⟩, fun q i hq => hk q i (by omega)⟩
theorem seed_rowM {c : CF} {z : Sg} {i s t : Nat} (h : RowM c 41 0 (z.1, z.2.1, seedF z.2.2 i s)) (hk : (z.2.2 i).1 = 0) : RowM (up c 41 (2 + 4 * i + 2) (nI t)) 41 0 (z.1, z.2.1, seedF z.2.2 i t) := by
  refine ⟨?_, ?_, fun j hj => ?_⟩
  · rw [up_at, if_neg (by omega)]
    exact h.1
  · rw [up_at, if_neg (by omega)]
    exact h.2.1
  · have hj : j < z.1 := hj
    have h3 := h.2.2 j hj
    show LnM _ 41 (0 + 2 + 4 * j) (seedF z.2.2 i t j)
    by_cases e : j = i
    · subst e
      have e1 : seedF z.2.2 j s j = ((z.2.2 j).1, (z.2.2 j).2.1, s, (z.2.2 j).2.2.2) := if_pos rfl
      have e2 : seedF z.2.2 j t j = ((z.2.2 j).1, (z.2.2 j).2.1, t, (z.2.2 j).2.2.2) := if_pos rfl
      rw [show ((z.1, z.2.1, seedF z.2.2 j s) : Sg).2.2 = seedF z.2.2 j s from rfl, e1] at h3
      rw [e2]
      unfold LnM at h3 ⊢
      rw [show 0 + 2 + 4 * j = 2 + 4 * j from by omega] at h3 ⊢
      have w2 : wM ((z.2.2 j).1, (z.2.2 j).2.1, t, (z.2.2 j).2.2.2) 2 = nI t := wM_2 (by show 2 ≤ npK (z.2.2 j).1; rw [hk]; decide)
      rw [w2, up_at, if_neg (by omega), up_at, if_neg (by omega), up_at, if_pos ⟨rfl, rfl⟩, up_at, if_neg (by omega)]
      exact ⟨h3.1, h3.2.1, rfl, h3.2.2.2⟩
    · rw [seedF_ne e]
      rw [show ((z.1, z.2.1, seedF z.2.2 i s) : Sg).2.2 = seedF z.2.2 i s from rfl, seedF_ne e] at h3
      exact h3.keep fun k h1 h2 => by rw [up_at, if_neg (by omega)]
theorem seed_sg {z : Sg} {i s : Nat} (h : SgOk z) (hk : (z.2.2 i).1 = 0) (h1 : 1 ≤ s) (h2 : s ≤ 255) : SgOk (z.1, z.2.1, seedF z.2.2 i s) := ⟨h.1, h.2.1, h.2.2.1, seed_ok h.2.2.2 hk h1 h2⟩
/-- after k seeds -/
def bsM (f : Nat → Ln) (i j t : Nat) : Nat → Nat × Nat
  | 0 => (0, 0)
  | k + 1 => bstF f i j t k
theorem bsM_1 {f : Nat → Ln} {i j t : Nat} : bsM f i j t 1 = (1, errS f i j t 1) := rfl
theorem bsM_lt {f : Nat → Ln} {i j t k : Nat} (hk : k ≠ 0) (h : errS f i j t (k + 1) < (bsM f i j t k).2) : bsM f i j t (k + 1) = (k + 1, errS f i j t (k + 1)) := by
  obtain ⟨d, rfl⟩ : ∃ d, k = d + 1 := ⟨k - 1, by omega⟩
  exact if_pos h
theorem bsM_ge {f : Nat → Ln} {i j t k : Nat} (hk : k ≠ 0) (h : ¬ errS f i j t (k + 1) < (bsM f i j t k).2) : bsM f i j t (k + 1) = bsM f i j t k := by
  obtain ⟨d, rfl⟩ : ∃ d, k = d + 1 := ⟨k - 1, by omega⟩
  exact if_neg h
theorem bsM_le {f : Nat → Ln} {i j t k : Nat} (h : ∀ s, 1 ≤ s → s ≤ 255 → errS f i j t s ≤ 65536) (hk : k ≤ 255) : (bsM f i j t k).1 ≤ k ∧ (bsM f i j t k).2 ≤ 65536 := by
  cases k with
  | zero => exact ⟨Nat.le_refl _, Nat.zero_le _⟩
  | succ k => exact bst_le h k (by omega)
/-! depths and sources, place by place -/
def pd (f : Nat → Ln) (i : Nat) : Nat → Nat
  | 0 => if nlK (f i).1 = 0 then 0 else 1
  | w + 1 => max (pd f i w) (1 + dp f (nthN (f i) w))
def po (f : Nat → Ln) (i : Nat) : Nat → Nat
  | 0 => if nlK (f i).1 = 0 then 2 ^ i else 0
  | w + 1 => po f i w ||| og f (nthN (f i) w)
theorem pd_end {f : Nat → Ln} {i : Nat} (h : LnOk i (f i)) : pd f i (nlK (f i).1) = dp f i := by
  rw [dp_eq h]
  have h6 := h.1
  rcases (show (f i).1 = 0 ∨ (f i).1 = 1 ∨ (f i).1 = 2 ∨ (f i).1 = 3 ∨ (f i).1 = 4 ∨ (f i).1 = 5 ∨ (f i).1 = 6 by omega) with e | e | e | e | e | e | e <;> simp [pd, dpS, nthN, e, nlK] <;> omega
theorem po_end {f : Nat → Ln} {i : Nat} (h : LnOk i (f i)) : po f i (nlK (f i).1) = og f i := by
  rw [og_eq h]
  have h6 := h.1
  rcases (show (f i).1 = 0 ∨ (f i).1 = 1 ∨ (f i).1 = 2 ∨ (f i).1 = 3 ∨ (f i).1 = 4 ∨ (f i).1 = 5 ∨ (f i).1 = 6 by omega) with e | e | e | e | e | e | e <;> simp [po, ogS, nthN, e, nlK]
theorem nth_lt {f : Nat → Ln} {i w : Nat} (h : LnOk i (f i)) (hw : w < nlK (f i).1) : nthN (f i) w < i := by
  have h6 := h.1
  obtain ⟨-, -, h1, h2, h3, -⟩ := h
  rcases (show (f i).1 = 0 ∨ (f i).1 = 1 ∨ (f i).1 = 2 ∨ (f i).1 = 3 ∨ (f i).1 = 4 ∨ (f i).1 = 5 ∨ (f i).1 = 6 by omega) with e | e | e | e | e | e | e <;> rw [e] at hw h1 h2 h3 <;> simp [nlK] at hw <;> unfold nthN <;> (repeat' split) <;> first | omega | exact h1 (by omega) | exact h2 (by omega) (by omega) | exact h3 (by omega)
theorem nl_np : ∀ k, k < 7 → nlK k ≤ npK k := by decide
theorem RowM.nth {c : CF} {z : Sg} (h : RowM c 41 0 z) {j w : Nat} (hj : j < z.1) (hw : w < npK (z.2.2 j).1) (h3 : w < 3) : c 41 (2 + 4 * j + (w + 1)) = nI (nthN (z.2.2 j) w) := by
  rcases (show w = 0 ∨ w = 1 ∨ w = 2 by omega) with rfl | rfl | rfl
  · exact (h.w1 hj).trans (wM_1 (by omega))
  · exact (h.w2 hj).trans (wM_2 (by omega))
  · exact (h.w3 hj).trans (wM_3 (by omega))
theorem pd_le {f : Nat → Ln} {i : Nat} (hd : ∀ a, a < i → dp f a ≤ a) (h : LnOk i (f i)) : ∀ w, w ≤ nlK (f i).1 → pd f i w ≤ i + 1
  | 0, _ => by unfold pd; split <;> omega
  | w + 1, hw => by
    have h1 := pd_le hd h w (by omega)
    have h2 := nth_lt h (w := w) (by omega)
    have h3 := hd _ h2
    unfold pd
    omega
def DepJ (f : Nat → Ln) (i w : Nat) (c0 c : CF) : Prop := DepI f i c0 c ∧ c 50 i = nI (pd f i w) ∧ c 51 i = nI (po f i w)
theorem DepJ.set {f : Nat → Ln} {i w : Nat} {c0 c c1 c2 : CF} {x y : Nat} (h : DepI f i c0 c) (e1 : c1 = up c 50 i (nI x)) (e2 : c2 = up c1 51 i (nI y)) (hx : x = pd f i w) (hy : y = po f i w) : DepJ f i w c0 c2 := by
  subst e1 e2 hx hy
  refine ⟨⟨fun a ha => ?_, fun q k q1 q2 => ?_⟩, ?_, up_s _ _ _ _⟩
  · rw [up_at, if_neg (by omega), up_at, if_neg (by omega), up_at, if_neg (by omega), up_at, if_neg (by omega)]
    exact h.1 a ha
  · rw [up_at, if_neg (by omega), up_at, if_neg (by omega)]
    exact h.2 q k q1 q2
  · rw [up_at, if_neg (by omega)]
    exact up_s _ _ _ _
theorem DepJ.done {f : Nat → Ln} {i : Nat} {c0 c : CF} (h : DepJ f i (nlK (f i).1) c0 c) (hok : LnOk i (f i)) : DepI f (i + 1) c0 c :=
  h.1.step (by rw [h.2.1, pd_end hok]) (by rw [h.2.2, po_end hok]) (fun _ _ _ => rfl)
