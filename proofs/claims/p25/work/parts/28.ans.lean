abbrev UNK : Int32 := -100000001
abbrev BAD : Int32 := -100000002
abbrev FUL : Int32 := -100000003
abbrev NPO : Int32 := -100000004
abbrev NON : Int32 := -100000005
def withL (X : XS) (x : Int32) (k : Nat → Int32 × XS) : Int32 × XS := match ixO X.1.1 x with | none => (UNK, X) | some j => k j
def withR (X : XS) (a b : Nat) (x : Int32) (k : Nat → Int32 × XS) : Int32 × XS := match rgO a b x with | none => (BAD, X) | some j => k j
theorem withL_n {X : XS} {x : Int32} {k : Nat → Int32 × XS} (h : ixO X.1.1 x = none) : withL X x k = (UNK, X) := by unfold withL; rw [h]
theorem withL_s {X : XS} {x : Int32} {j : Nat} {k : Nat → Int32 × XS} (h : ixO X.1.1 x = some j) : withL X x k = k j := by unfold withL; rw [h]
theorem withR_n {X : XS} {a b : Nat} {x : Int32} {k : Nat → Int32 × XS} (h : rgO a b x = none) : withR X a b x k = (BAD, X) := by unfold withR; rw [h]
theorem withR_s {X : XS} {a b : Nat} {x : Int32} {j : Nat} {k : Nat → Int32 × XS} (h : rgO a b x = some j) : withR X a b x k = k j := by unfold withR; rw [h]
def addL (X : XS) (q : Ln) : Int32 × XS := if X.1.1 = 16 then (FUL, X) else (nI X.1.1, actd X (X.1.1 + 1, X.1.2.1, fun j => if j = X.1.1 then q else X.1.2.2 j))
def a_source (X : XS) (x y : Int32) : Int32 × XS := withR X 0 256 x fun a => withR X 1 255 y fun b => addL X (0, a, b, 0)
def a_gate (X : XS) (k x y : Int32) : Int32 × XS := withL X x fun i => withL X y fun j => withR X 1 3 k fun k => addL X (k, i, j, 0)
def a_choose (X : XS) (x y w : Int32) : Int32 × XS := withL X x fun i => withL X y fun j => withL X w fun k => addL X (4, i, j, k)
def a_turn (X : XS) (x : Int32) : Int32 × XS := withL X x fun i => addL X (5, i, 0, 0)
def a_delay (X : XS) (x y : Int32) : Int32 × XS := withL X x fun i => withR X 1 60 y fun d => addL X (6, i, d, 0)
def a_reseed (X : XS) (x y w : Int32) : Int32 × XS := withL X x fun i => withR X 0 256 y fun a => withR X 1 255 w fun b =>
  if (X.1.2.2 i).1 ≠ 0 then (NPO, X) else if (X.1.2.2 i).2.1 = a ∧ (X.1.2.2 i).2.2.1 = b then (NON, X)
  else (nI (X.1.2.2 i).2.1, actd X (X.1.1, X.1.2.1, setL X.1.2.2 i (0, a, b, (X.1.2.2 i).2.2.2)))
def a_removeLast (X : XS) : Int32 × XS := if X.1.1 = 0 then (NON, X) else (nI (X.1.1 - 1), actd X (X.1.1 - 1, X.1.2))
def a_setLength (X : XS) (x : Int32) : Int32 × XS := withR X 1 1000 x fun n => if X.1.2.1 = n then (NON, X) else (nI X.1.2.1, actd X (X.1.1, n, X.1.2.2))
/-- line k of those read is made of lines ahead of it -/
abbrev ahd (n : Nat) (g : Nat → Ln) (k : Nat) : Prop := (1 ≤ nlK (g k).1 → (g k).2.1 < n + k) ∧ (2 ≤ nlK (g k).1 → (g k).2.2.1 < n + k) ∧ (3 ≤ nlK (g k).1 → (g k).2.2.2 < n + k)
def a_read (X : XS) : Int32 × XS := match (rdT X.2.2.2).1 with
  | some p => (-100000100 - nI p, X)
  | none =>
    if ¬ ∀ k, k < (rdT X.2.2.2).2.1 → ahd X.1.1 (rdT X.2.2.2).2.2 k then (UNK, X)
    else if 16 < X.1.1 + (rdT X.2.2.2).2.1 then (FUL, X) else (nI (X.1.1 + (rdT X.2.2.2).2.1), actd X (appL X.1 (rdT X.2.2.2).2.1 (rdT X.2.2.2).2.2))
def a_type (X : XS) (ch : Nat) : Int32 × XS := if X.2.2.2.1 = 80 then (FUL, X) else (nI (X.2.2.2.1 + 1), (X.1, X.2.1, X.2.2.1, (X.2.2.2.1 + 1, fun i => if i = X.2.2.2.1 then ch else X.2.2.2.2 i)))
def a_clear (X : XS) : Int32 × XS := (nI X.2.2.2.1, (X.1, X.2.1, X.2.2.1, (0, X.2.2.2.2)))
def a_undo (X : XS) : Int32 × XS := if X.2.1.1 = 0 then (NON, X) else (nI (X.2.1.1 - 1), (X.2.1.2 (X.2.1.1 - 1), (X.2.1.1 - 1, X.2.1.2), X.2.2))
def a_keep (X : XS) : Int32 × XS := (nI X.1.1, (X.1, X.2.1, (1, X.1), X.2.2.2))
def a_restore (X : XS) : Int32 × XS := if X.2.2.1.1 = 0 then (NON, X) else (nI X.2.2.1.2.1, actd X X.2.2.1.2)
/-! what is told -/
def cnt (f : Nat → Ln) (j t : Nat) : Nat := fb_ct (bt f j) t
def apt (a b : Nat) : Nat := (a - b) + (b - a)
def errN (f : Nat → Ln) (j t : Nat) : Nat := apt (cnt f j t * 65536 / t) (ex f j)
def tellN (X : XS) (j k : Nat) : Int32 :=
  if k = 0 then nI (X.1.2.2 j).1
  else if k = 1 then (if npK (X.1.2.2 j).1 < 1 then NON else nI (X.1.2.2 j).2.1)
  else if k = 2 then (if npK (X.1.2.2 j).1 < 2 then NON else nI (X.1.2.2 j).2.2.1)
  else if k = 3 then (if npK (X.1.2.2 j).1 < 3 then NON else nI (X.1.2.2 j).2.2.2)
  else if k = 4 then nI (cnt X.1.2.2 j X.1.2.1)
  else if k = 5 then nI (cnt X.1.2.2 j X.1.2.1 * 65536 / X.1.2.1)
  else if k = 6 then nI (ex X.1.2.2 j)
  else if k = 7 then nI (errN X.1.2.2 j X.1.2.1)
  else if k = 8 then nI (dp X.1.2.2 j)
  else nI (fb_ct (fun t => (og X.1.2.2 j).testBit t) 32)
def a_line (X : XS) (x y : Int32) : Int32 × XS := withL X x fun j => withR X 0 9 y fun k => (tellN X j k, X)
def a_bit (X : XS) (x y : Int32) : Int32 × XS := withL X x fun j => withR X 0 999 y fun t => (nI (bN (bt X.1.2.2 j t)), X)
def both (f : Nat → Ln) (i j t : Nat) : Nat := fb_ct (fun k => bt f i k && bt f j k) t
def ovl (f : Nat → Ln) (i j t : Nat) : Int32 := Int64.toInt32 (((lN (both f i j t * t) - lN (cnt f i t * cnt f j t)) * lN 65536) / lN (t * t))
def a_overlap (X : XS) (x y : Int32) : Int32 × XS := withL X x fun i => withL X y fun j => (ovl X.1.2.2 i j X.1.2.1, X)
def a_errorAt (X : XS) (x y : Int32) : Int32 × XS := withL X x fun j => withR X 1 1000 y fun t => (nI (errN X.1.2.2 j t), X)
/-- the greatest length to t with an error beyond b, or 0 -/
def lastF (f : Nat → Ln) (j b : Nat) : Nat → Nat
  | 0 => 0
  | t + 1 => if b < errN f j (t + 1) then t + 1 else lastF f j b t
def a_settles (X : XS) (x y : Int32) : Int32 × XS := withL X x fun j => withR X 0 65536 y fun b => (if lastF X.1.2.2 j b 1000 = 1000 then NON else nI (lastF X.1.2.2 j b 1000 + 1), X)
/-- the error with another seed -/
def seedF (f : Nat → Ln) (i s : Nat) : Nat → Ln := setL f i ((f i).1, (f i).2.1, s, (f i).2.2.2)
def errS (f : Nat → Ln) (i j t s : Nat) : Nat := errN (seedF f i s) j t
/-- of the seeds 1 to k + 1: the best and its error -/
def bstF (f : Nat → Ln) (i j t : Nat) : Nat → Nat × Nat
  | 0 => (1, errS f i j t 1)
  | k + 1 => if errS f i j t (k + 2) < (bstF f i j t k).2 then (k + 2, errS f i j t (k + 2)) else bstF f i j t k
def a_best (X : XS) (x y w : Int32) : Int32 × XS := withL X x fun i => withL X y fun j => withR X 0 1 w fun k =>
  if (X.1.2.2 i).1 ≠ 0 then (NPO, X) else (if k = 0 then nI (bstF X.1.2.2 i j X.1.2.1 254).1 else nI (bstF X.1.2.2 i j X.1.2.1 254).2, X)
def unlF (f : Nat → Ln) (j n : Nat) : Nat := fb_ct (fun t => bt f j (60 + t) != bt f j (60 + t + 255)) n
def a_unlike (X : XS) (x : Int32) : Int32 × XS := withL X x fun j => (nI (unlF X.1.2.2 j 195), X)
def sumE (f : Nat → Ln) (t : Nat) : Nat → Nat
  | 0 => 0
  | n + 1 => sumE f t n + errN f n t
/-- the line with the greatest error of the first n -/
def wrst (f : Nat → Ln) (t : Nat) : Nat → Option (Nat × Nat)
  | 0 => none
  | n + 1 => match wrst f t n with
    | none => some (n, errN f n t)
    | some (w, g) => if g < errN f n t then some (n, errN f n t) else some (w, g)
def wrI (o : Option (Nat × Nat)) : Int32 := match o with | none => NON | some (w, _) => nI w
def cntN (X : XS) (k : Nat) : Int32 :=
  if k = 0 then nI X.1.1 else if k = 1 then nI X.1.2.1 else if k = 2 then nI (fb_ct (fun j => decide ((X.1.2.2 j).1 = 0)) X.1.1)
  else if k = 3 then nI (sumE X.1.2.2 X.1.2.1 X.1.1) else if k = 4 then wrI (wrst X.1.2.2 X.1.2.1 X.1.1) else if k = 5 then nI (mxN (dp X.1.2.2) X.1.1)
  else if k = 6 then nI X.2.1.1 else nI X.2.2.2.1
def a_count (X : XS) (x : Int32) : Int32 × XS := withR X 0 7 x fun k => (cntN X k, X)
/-! all that is well stays well -/
theorem SgOk.add {z : Sg} {q : Ln} (h : SgOk z) (hn : z.1 ≠ 16) (hq : LnOk z.1 q) : SgOk (z.1 + 1, z.2.1, fun j => if j = z.1 then q else z.2.2 j) := by
  refine ⟨by show z.1 + 1 ≤ 16; have := h.1; omega, h.2.1, h.2.2.1, fun j hj => ?_⟩
  have hj : j < z.1 + 1 := hj
  show LnOk j (if j = z.1 then q else z.2.2 j)
  split
  · rename_i e
    rw [e]
    exact hq
  · exact h.2.2.2 j (by omega)
theorem ok_addL {X : XS} {q : Ln} (h : XOk X) (hq : LnOk X.1.1 q) : XOk (addL X q).2 := by
  unfold addL
  split
  · exact h
  · rename_i e
    exact h.actd (h.1.add e hq)
theorem ok_L {X : XS} {x : Int32} {k : Nat → Int32 × XS} (h : XOk X) (hk : ∀ j, j < X.1.1 → XOk (k j).2) : XOk (withL X x k).2 := by
  rcases ixO_cases X.1.1 x (by have := h.1.1; omega) with e | ⟨j, hj, -, e⟩
  · rw [withL_n e]
    exact h
  · rw [withL_s e]
    exact hk j hj
theorem ok_R {X : XS} {a b : Nat} {x : Int32} {k : Nat → Int32 × XS} (h : XOk X) (ha : a < 2 ^ 31) (hb : b < 2 ^ 31) (hk : ∀ j, a ≤ j → j ≤ b → XOk (k j).2) : XOk (withR X a b x k).2 := by
  rcases rgO_cases a b x ha hb with e | ⟨j, h1, h2, -, e⟩
  · rw [withR_n e]
    exact h
  · rw [withR_s e]
    exact hk j h1 h2
theorem ok_source {X : XS} (h : XOk X) (x y : Int32) : XOk (a_source X x y).2 :=
  ok_R h (by decide) (by decide) fun a h1 h2 => ok_R h (by decide) (by decide) fun b h3 h4 => ok_addL h (by unfold LnOk; refine ⟨?_, ?_, ?_, ?_, ?_, ?_, ?_, ?_⟩ <;> simp <;> omega)
theorem ok_gate {X : XS} (h : XOk X) (k x y : Int32) : XOk (a_gate X k x y).2 :=
  ok_L h fun i hi => ok_L h fun j hj => ok_R h (by decide) (by decide) fun k h3 h4 => ok_addL h (by have := h.1.1; unfold LnOk; refine ⟨?_, ?_, ?_, ?_, ?_, ?_, ?_, ?_⟩ <;> simp <;> omega)
theorem ok_choose {X : XS} (h : XOk X) (x y w : Int32) : XOk (a_choose X x y w).2 :=
  ok_L h fun i hi => ok_L h fun j hj => ok_L h fun k hk => ok_addL h (by have := h.1.1; unfold LnOk; refine ⟨?_, ?_, ?_, ?_, ?_, ?_, ?_, ?_⟩ <;> simp <;> omega)
theorem ok_turn {X : XS} (h : XOk X) (x : Int32) : XOk (a_turn X x).2 :=
  ok_L h fun i hi => ok_addL h (by have := h.1.1; unfold LnOk; refine ⟨?_, ?_, ?_, ?_, ?_, ?_, ?_, ?_⟩ <;> simp <;> omega)
theorem ok_delay {X : XS} (h : XOk X) (x y : Int32) : XOk (a_delay X x y).2 :=
  ok_L h fun i hi => ok_R h (by decide) (by decide) fun d h3 h4 => ok_addL h (by have := h.1.1; unfold LnOk; refine ⟨?_, ?_, ?_, ?_, ?_, ?_, ?_, ?_⟩ <;> simp <;> omega)
theorem ok_setL {z : Sg} {i a b : Nat} (h : SgOk z) (hi : i < z.1) (hk : (z.2.2 i).1 = 0) (ha : a ≤ 256) (hb : 1 ≤ b) (hb2 : b ≤ 255) : SgOk (z.1, z.2.1, setL z.2.2 i (0, a, b, (z.2.2 i).2.2.2)) := by
  refine ⟨h.1, h.2.1, h.2.2.1, fun j hj => ?_⟩
  show LnOk j (if j = i then (0, a, b, (z.2.2 i).2.2.2) else z.2.2 j)
  split
  · have := (h.2.2.2 i hi).2.2.2.2.2.2.2
    unfold LnOk
    refine ⟨?_, ?_, ?_, ?_, ?_, ?_, ?_, ?_⟩ <;> simp <;> omega
  · exact h.2.2.2 j hj
theorem ok_reseed {X : XS} (h : XOk X) (x y w : Int32) : XOk (a_reseed X x y w).2 :=
  ok_L h fun i hi => ok_R h (by decide) (by decide) fun a h1 h2 => ok_R h (by decide) (by decide) fun b h3 h4 => by
    show XOk (if _ then _ else _ : Int32 × XS).2
    split
    · exact h
    · split
      · exact h
      · rename_i e _
        exact h.actd (ok_setL h.1 hi (Decidable.of_not_not e) h2 h3 h4)
theorem ok_removeLast {X : XS} (h : XOk X) : XOk (a_removeLast X).2 := by
  unfold a_removeLast
  split
  · exact h
  · exact h.actd ⟨by show X.1.1 - 1 ≤ 16; have := h.1.1; omega, h.1.2.1, h.1.2.2.1, fun j hj => h.1.2.2.2 j (by have : j < X.1.1 - 1 := hj; omega)⟩
theorem ok_setLength {X : XS} (h : XOk X) (x : Int32) : XOk (a_setLength X x).2 :=
  ok_R h (by decide) (by decide) fun n h1 h2 => by
    show XOk (if _ then _ else _ : Int32 × XS).2
    split
    · exact h
    · exact h.actd ⟨h.1.1, h1, h2, h.1.2.2.2⟩
theorem ok_type {X : XS} (h : XOk X) {ch : Nat} (hc : ch < 65536) : XOk (a_type X ch).2 := by
  unfold a_type
  split
  · exact h
  · rename_i e
    refine ⟨h.1, h.2.1, h.2.2.1, by show X.2.2.2.1 + 1 ≤ 80; have := h.2.2.2.1; omega, fun i hi => ?_⟩
    have hi : i < X.2.2.2.1 + 1 := hi
    show (if i = X.2.2.2.1 then ch else X.2.2.2.2 i) < 65536
    split
    · exact hc
    · exact h.2.2.2.2 i (by omega)
theorem ok_clear {X : XS} (h : XOk X) : XOk (a_clear X).2 := ⟨h.1, h.2.1, h.2.2.1, Nat.zero_le _, fun i hi => absurd hi (Nat.not_lt_zero i)⟩
theorem ok_undo {X : XS} (h : XOk X) : XOk (a_undo X).2 := by
  unfold a_undo
  split
  · exact h
  · exact ⟨h.2.1.2 _ (by omega), ⟨by show X.2.1.1 - 1 ≤ 4; have := h.2.1.1; omega, fun i hi => h.2.1.2 i (by have : i < X.2.1.1 - 1 := hi; omega)⟩, h.2.2⟩
theorem ok_keep {X : XS} (h : XOk X) : XOk (a_keep X).2 := ⟨h.1, h.2.1, ⟨Nat.le_refl _, fun _ => h.1⟩, h.2.2.2⟩
theorem ok_restore {X : XS} (h : XOk X) : XOk (a_restore X).2 := by
  unfold a_restore
  split
  · exact h
  · exact h.actd (h.2.2.1.2 (by have := h.2.2.1.1; omega))
/-- a line that is read is well but for its place -/
def LnRd (q : Ln) : Prop := q.1 ≤ 6 ∧ (q.1 = 0 → q.2.1 ≤ 256 ∧ 1 ≤ q.2.2.1 ∧ q.2.2.1 ≤ 255) ∧ (q.1 = 6 → 1 ≤ q.2.2.1 ∧ q.2.2.1 ≤ 60) ∧ q.2.2.1 ≤ 256 ∧ q.2.2.2 ≤ 256 ∧ q.2.1 ≤ 256
theorem LnRd.ok {n : Nat} {k : Nat} {g : Nat → Ln} (h : LnRd (g k)) (ha : ahd n g k) : LnOk (n + k) (g k) := by
  obtain ⟨h1, h2, h3, h4, h5, h6⟩ := h
  obtain ⟨a1, a2, a3⟩ := ha
  rcases (show (g k).1 = 0 ∨ (g k).1 = 1 ∨ (g k).1 = 2 ∨ (g k).1 = 3 ∨ (g k).1 = 4 ∨ (g k).1 = 5 ∨ (g k).1 = 6 by omega) with e | e | e | e | e | e | e <;> rw [e] at a1 a2 a3 h2 h3 <;> unfold LnOk <;> rw [e] <;> refine ⟨by omega, ?_, ?_, ?_, ?_, ?_, h4, h5⟩ <;> first | exact h2 | exact h3 | (intro _; exact a1 (by decide)) | (intro _ _; exact a2 (by decide)) | (intro _; exact a3 (by decide)) | (intro _ _; omega) | (intro _; omega) | omega
