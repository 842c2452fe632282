/-! the state of both, and what the calls answer -/
abbrev HS : Type := Nat × (Nat → Sg)
abbrev XS : Type := Sg × HS × (Nat × Sg) × Tx
def pushH (h : HS) (z : Sg) : HS := if h.1 < 4 then (h.1 + 1, fun i => if i = h.1 then z else h.2 i) else (4, fun i => if i = 3 then z else h.2 (i + 1))
def actd (X : XS) (z : Sg) : XS := (z, pushH X.2.1 X.1, X.2.2)
def HisOk (h : HS) : Prop := h.1 ≤ 4 ∧ ∀ i, i < h.1 → SgOk (h.2 i)
def XOk (X : XS) : Prop := SgOk X.1 ∧ HisOk X.2.1 ∧ (X.2.2.1.1 ≤ 1 ∧ (X.2.2.1.1 = 1 → SgOk X.2.2.1.2)) ∧ X.2.2.2.1 ≤ 80 ∧ ∀ i, i < X.2.2.2.1 → X.2.2.2.2 i < 65536
theorem HisOk.push {h : HS} {z : Sg} (hh : HisOk h) (hz : SgOk z) : HisOk (pushH h z) := by
  unfold pushH
  obtain ⟨h4, hs⟩ := hh
  split
  · rename_i q
    refine ⟨by show h.1 + 1 ≤ 4; omega, fun i hi => ?_⟩
    have hi : i < h.1 + 1 := hi
    show SgOk (if i = h.1 then z else h.2 i)
    split
    · exact hz
    · exact hs i (by omega)
  · rename_i q
    refine ⟨Nat.le_refl _, fun i hi => ?_⟩
    have hi : i < 4 := hi
    show SgOk (if i = 3 then z else h.2 (i + 1))
    split
    · exact hz
    · exact hs (i + 1) (by omega)
theorem XOk.actd {X : XS} {z : Sg} (h : XOk X) (hz : SgOk z) : XOk (actd X z) := ⟨hz, h.2.1.push h.1, h.2.2⟩
/-! the component's side -/
def HisC (c : CF) (h : HS) (o : Nat) : Prop := o < 4 ∧ c 0 1 = nI o ∧ c 0 2 = nI h.1 ∧ ∀ i, i < h.1 → RepB (3 + (o + i) % 4) c (h.2 i)
def RepC (c : CF) (X : XS) : Prop := RepB 0 c X.1 ∧ (∃ o, HisC c X.2.1 o) ∧ (c 0 0 = nI X.2.2.1.1 ∧ (X.2.2.1.1 = 1 → RepB 1 c X.2.2.1.2)) ∧ TxC c X.2.2.2
def live (q i : Nat) : Prop := (q = 0 ∧ i ≤ 3) ∨ (q = 1 ∧ i ≠ 2) ∨ (q = 2 ∧ i ≠ 2) ∨ q = 6 ∨ (20 ≤ q ∧ q ≠ 22 ∧ q ≤ 26) ∨ (30 ≤ q ∧ q ≠ 32 ∧ q ≤ 36)
theorem RepB.keep {b : Nat} {c c' : CF} {z : Sg} (h : RepB b c z) (h1 : c' 1 b = c 1 b) (h2 : c' 2 b = c 2 b) (h3 : ∀ i, c' (20 + b) i = c (20 + b) i) (h4 : ∀ i, c' (30 + b) i = c (30 + b) i) : RepB b c' z := ⟨h1.trans h.1, h.2.keep h2 h3 h4⟩
theorem TxC.keep {c c' : CF} {z : Tx} (h : TxC c z) (h1 : c' 0 3 = c 0 3) (h2 : ∀ i, c' 6 i = c 6 i) : TxC c' z := ⟨h1.trans h.1, h.2.1, fun i hi => ⟨(h2 i).trans (h.2.2 i hi).1, (h.2.2 i hi).2⟩⟩
theorem HisC.keep {c c' : CF} {h : HS} {o : Nat} (hh : HisC c h o) (hk : ∀ q i, live q i → c' q i = c q i) : HisC c' h o := by
  obtain ⟨h1, h2, h3, h4⟩ := hh
  refine ⟨h1, (hk _ _ (Or.inl ⟨rfl, by decide⟩)).trans h2, (hk _ _ (Or.inl ⟨rfl, by decide⟩)).trans h3, fun i hi => (h4 i hi).keep ?_ ?_ (fun j => ?_) (fun j => ?_)⟩
  · exact hk _ _ (by unfold live; omega)
  · exact hk _ _ (by unfold live; omega)
  · exact hk _ _ (by unfold live; omega)
  · exact hk _ _ (by unfold live; omega)
theorem RepC.keep {c c' : CF} {X : XS} (h : RepC c X) (hk : ∀ q i, live q i → c' q i = c q i) : RepC c' X := by
  obtain ⟨h1, ⟨o, h2⟩, ⟨h3, h4⟩, h5⟩ := h
  refine ⟨h1.keep ?_ ?_ (fun j => ?_) (fun j => ?_), ⟨o, h2.keep hk⟩, ⟨(hk _ _ (Or.inl ⟨rfl, by decide⟩)).trans h3, fun e => (h4 e).keep ?_ ?_ (fun j => ?_) (fun j => ?_)⟩, h5.keep ?_ (fun j => ?_)⟩ <;> exact hk _ _ (by unfold live; omega)
/-- a world that differs in what no call keeps -/
def Scr (c c' : CF) : Prop := ∀ q i, q ≠ 22 → q ≠ 32 → ¬ (q = 2 ∧ i = 2) → ¬ (q = 1 ∧ i = 2) → ¬ (q = 0 ∧ i = 4) → q ≠ 3 → q ≠ 4 → q ≠ 5 → c' q i = c q i
def SameM (c c' : CF) : Prop := ∀ q i, 40 ≤ q → c' q i = c q i
theorem SameM.rf (c : CF) : SameM c c := fun _ _ _ => rfl
theorem SameM.tr {a b c : CF} (h : SameM a b) (h2 : SameM b c) : SameM a c := fun q i hq => (h2 q i hq).trans (h q i hq)
theorem SameM.up {a c : CF} {r i : Nat} {v : Int32} (h : SameM a c) (hr : r < 40) : SameM a (up c r i v) := fun q j hq => by
  rw [up_at, if_neg (by omega)]
  exact h q j hq
theorem Scr.rf (c : CF) : Scr c c := fun _ _ _ _ _ _ _ _ _ _ => rfl
theorem Scr.tr {a b c : CF} (h : Scr a b) (h2 : Scr b c) : Scr a c := fun q i q1 q2 q3 q4 q5 q6 q7 q8 => (h2 q i q1 q2 q3 q4 q5 q6 q7 q8).trans (h q i q1 q2 q3 q4 q5 q6 q7 q8)
theorem Scr.rep {c c' : CF} {X : XS} (h : RepC c X) (hs : Scr c c') : RepC c' X := h.keep fun q i hl => by
  unfold live at hl
  exact hs q i (by omega) (by omega) (by omega) (by omega) (by omega) (by omega) (by omega) (by omega)
theorem Scr.m {c c' : CF} (hs : Scr c c') : SameM c c' := fun q i hq => hs q i (by omega) (by omega) (by omega) (by omega) (by omega) (by omega) (by omega) (by omega)
theorem OthT.scr {c c' : CF} (h : OthT c c') : Scr c c' := fun q i q1 q2 q3 q4 q5 q6 q7 q8 => h q i q1 q2 q3 q5
theorem FigO.scr {c c' : CF} (h : FigO c c') : Scr c c' := fun q i q1 q2 q3 q4 q5 q6 q7 q8 => h q i q6 q7 q8
/-- a copy into bench b leaves the others -/
theorem CopyOf.oth {b b2 b3 : Nat} {c0 c : CF} {z : Sg} (h : CopyOf b b2 c0 c) (hb : b < 7) (h3 : b3 < 7) (hne : b3 ≠ b) (hz : RepB b3 c0 z) : RepB b3 c z := hz.keep (h.2.2 _ _ (by omega) (by omega) (by omega) (by omega)) (h.2.2 _ _ (by omega) (by omega) (by omega) (by omega)) (fun i => h.2.2 _ _ (by omega) (by omega) (by omega) (by omega)) (fun i => h.2.2 _ _ (by omega) (by omega) (by omega) (by omega))
theorem CopyOf.m {b b2 : Nat} {c0 c : CF} (h : CopyOf b b2 c0 c) (hb : b < 7) : SameM c0 c := fun q i hq => h.2.2 q i (by omega) (by omega) (by omega) (by omega)
theorem RepB.up0 {b : Nat} {c : CF} {z : Sg} {i : Nat} {v : Int32} (h : RepB b c z) : RepB b (up c 0 i v) z := h.keep (by rw [up_at, if_neg (by omega)]) (by rw [up_at, if_neg (by omega)]) (fun j => by rw [up_at, if_neg (by omega)]) (fun j => by rw [up_at, if_neg (by omega)])
theorem TxC.copy {b b2 : Nat} {c0 c : CF} {z : Tx} (h : CopyOf b b2 c0 c) (hb : b < 7) (hz : TxC c0 z) : TxC c z := hz.keep (h.z 3) (fun i => h.2.2 _ _ (by omega) (by omega) (by omega) (by omega))
theorem PushP.rep {o zz : Nat} {c0 c : CF} {X : XS} (h : PushP o zz c0 c) (hz : X.2.1.1 = zz) (hok : XOk X) (hB : RepB 0 c0 X.1) (hH : HisC c0 X.2.1 o) (hS : c0 0 0 = nI X.2.2.1.1 ∧ (X.2.2.1.1 = 1 → RepB 1 c0 X.2.2.1.2)) (hT : TxC c0 X.2.2.2) : RepC c (actd X X.1) ∧ SameM c0 c := by
  subst hz
  obtain ⟨c1, hc, e⟩ := h
  obtain ⟨ho4, ho, hz, hs⟩ := hH
  have hz4 := hok.2.1.1
  have hb : 3 + (o + X.2.1.1) % 4 < 7 := by omega
  have h0 : RepB 0 c1 X.1 := hc.oth hb (by decide) (by omega) hB
  have hn : RepB (3 + (o + X.2.1.1) % 4) c1 X.1 := hc.rep hB hok.1.1
  have hS1 : X.2.2.1.1 = 1 → RepB 1 c1 X.2.2.1.2 := fun q => hc.oth hb (by decide) (by omega) (hS.2 q)
  have hT1 : TxC c1 X.2.2.2 := hT.copy hc hb
  have hs1 : ∀ i, i < X.2.1.1 → (X.2.1.1 < 4 ∨ 1 ≤ i) → RepB (3 + (o + i) % 4) c1 (X.2.1.2 i) := fun i hi h4 => hc.oth hb (by omega) (by omega) (hs i hi)
  by_cases h4 : X.2.1.1 < 4
  · rw [if_pos h4] at e
    subst e
    refine ⟨⟨h0.up0, ⟨o, ho4, ?_, ?_, fun i hi => ?_⟩, ⟨?_, fun q => (hS1 q).up0⟩, hT1.keep ?_ (fun i => ?_)⟩, (hc.m hb).up (by decide)⟩
    · rw [up_at, if_neg (by omega), hc.z]
      exact ho
    · unfold actd pushH
      rw [if_pos h4]
      exact up_s _ _ _ _
    · unfold actd pushH at hi ⊢
      rw [if_pos h4] at hi ⊢
      have hi : i < X.2.1.1 + 1 := hi
      show RepB (3 + (o + i) % 4) _ (if i = X.2.1.1 then X.1 else X.2.1.2 i)
      by_cases e : i = X.2.1.1
      · rw [if_pos e, e]
        exact hn.up0
      · rw [if_neg e]
        exact (hs1 i (by omega) (Or.inl h4)).up0
    · rw [up_at, if_neg (by omega), hc.z]
      exact hS.1
    · rw [up_at, if_neg (by omega)]
    · rw [up_at, if_neg (by omega)]
  · rw [if_neg h4] at e
    subst e
    have hz4 : X.2.1.1 = 4 := by omega
    refine ⟨⟨h0.up0, ⟨(o + 1) % 4, by omega, ?_, ?_, fun i hi => ?_⟩, ⟨?_, fun q => (hS1 q).up0⟩, hT1.keep ?_ (fun i => ?_)⟩, (hc.m hb).up (by decide)⟩
    · exact up_s _ _ _ _
    · unfold actd pushH
      rw [if_neg h4, up_at, if_neg (by omega), hc.z, hz, hz4]
    · unfold actd pushH at hi ⊢
      rw [if_neg h4] at hi ⊢
      have hi : i < 4 := hi
      show RepB (3 + ((o + 1) % 4 + i) % 4) _ (if i = 3 then X.1 else X.2.1.2 (i + 1))
      by_cases e : i = 3
      · rw [if_pos e, show 3 + ((o + 1) % 4 + i) % 4 = 3 + (o + X.2.1.1) % 4 from by omega]
        exact hn.up0
      · rw [if_neg e, show 3 + ((o + 1) % 4 + i) % 4 = 3 + (o + (i + 1)) % 4 from by omega]
        exact (hs1 (i + 1) (by omega) (Or.inr (by omega))).up0
    · rw [up_at, if_neg (by omega), hc.z]
      exact hS.1
    · rw [up_at, if_neg (by omega)]
    · rw [up_at, if_neg (by omega)]
/-- only bench 0 is another one -/
def Onl0 (c c' : CF) : Prop := ∀ q i, q ≠ 20 → q ≠ 30 → ¬ (q = 2 ∧ i = 0) → ¬ (q = 1 ∧ i = 0) → c' q i = c q i
theorem Onl0.rep {c c' : CF} {X : XS} {z : Sg} (h : RepC c X) (ho : Onl0 c c') (hB : RepB 0 c' z) : RepC c' (z, X.2) ∧ SameM c c' := by
  obtain ⟨h1, ⟨o, h2⟩, ⟨h3, h4⟩, h5⟩ := h
  refine ⟨⟨hB, ⟨o, h2.1, (ho _ _ (by omega) (by omega) (by omega) (by omega)).trans h2.2.1, (ho _ _ (by omega) (by omega) (by omega) (by omega)).trans h2.2.2.1, fun i hi => (h2.2.2.2 i hi).keep ?_ ?_ (fun j => ?_) (fun j => ?_)⟩, ⟨(ho _ _ (by omega) (by omega) (by omega) (by omega)).trans h3, fun e => (h4 e).keep ?_ ?_ (fun j => ?_) (fun j => ?_)⟩, h5.keep ?_ (fun j => ?_)⟩, fun q i hq => ?_⟩ <;> exact ho _ _ (by omega) (by omega) (by omega) (by omega)
theorem Onl0.rf (c : CF) : Onl0 c c := fun _ _ _ _ _ _ => rfl
theorem Onl0.up {c0 c : CF} (h : Onl0 c0 c) {r i : Nat} {v : Int32} (hr : r = 20 ∨ r = 30 ∨ (r = 2 ∧ i = 0) ∨ (r = 1 ∧ i = 0)) : Onl0 c0 (up c r i v) := by
  intro q j h1 h2 h3 h4
  rw [up_at, if_neg (by omega)]
  exact h q j h1 h2 h3 h4
theorem CopyOf.onl {b2 : Nat} {c0 c : CF} (h : CopyOf 0 b2 c0 c) : Onl0 c0 c := fun q i h1 h2 h3 h4 => h.2.2 q i (by omega) (by omega) h3 h4
theorem PopP.rep {o zz : Nat} {c0 c : CF} {X : XS} (h : PopP o zz c0 c) (hz : X.2.1.1 = zz + 1) (hok : XOk X) (hB : RepB 0 c0 X.1) (hH : HisC c0 X.2.1 o) (hS : c0 0 0 = nI X.2.2.1.1 ∧ (X.2.2.1.1 = 1 → RepB 1 c0 X.2.2.1.2)) (hT : TxC c0 X.2.2.2) : RepC c (X.2.1.2 zz, (zz, X.2.1.2), X.2.2) ∧ SameM c0 c := by
  obtain ⟨c1, hc, e⟩ := h
  have hn := hc.rep (hH.2.2.2 zz (by omega)) (hok.2.1.2 zz (by omega)).1
  have h9 := Onl0.rep (X := X) ⟨hB, ⟨o, hH⟩, hS, hT⟩ hc.onl hn
  obtain ⟨⟨h1, -, ⟨h3, h4⟩, h5⟩, h6⟩ := h9
  subst e
  refine ⟨⟨h1.up0, ⟨o, hH.1, ?_, up_s _ _ _ _, fun i hi => ?_⟩, ⟨?_, fun q => (h4 q).up0⟩, h5.keep ?_ (fun j => ?_)⟩, h6.up (by decide)⟩
  · rw [up_at, if_neg (by omega), hc.z]
    exact hH.2.1
  · have hi : i < zz := hi
    exact (hc.oth (b3 := 3 + (o + i) % 4) (by decide) (by omega) (by omega) (hH.2.2.2 i (by omega))).up0
  · rw [up_at, if_neg (by omega)]
    exact h3
  · rw [up_at, if_neg (by omega)]
  · rw [up_at, if_neg (by omega)]
theorem RepB.add {c : CF} {z : Sg} {k f s t : Nat} (h : RepB 0 c z) : RepB 0 (addC 0 z.1 (nI k) (nI f) (nI s) (nI t) c) (z.1 + 1, z.2.1, fun j => if j = z.1 then (k, f, s, t) else z.2.2 j) := by
  refine ⟨?_, addC_s _ _ _ _ _ _ _, fun j hj => ?_⟩
  · rw [addC_oth 0 _ _ _ _ _ _ 1 0 (by decide) (by decide) (by decide)]
    exact h.1
  · show LnAt 0 _ j (if j = z.1 then (k, f, s, t) else z.2.2 j)
    have hj : j < z.1 + 1 := hj
    unfold LnAt
    rw [addC_k 0 _ (by decide), addC_n 0 _ (by decide), addC_n 0 _ (by decide), addC_n 0 _ (by decide)]
    by_cases e : j = z.1
    · subst e
      rw [if_pos rfl, if_pos rfl, if_neg (by omega), if_neg (by omega), if_pos rfl, if_neg (by omega), if_pos rfl, if_pos rfl]
      exact ⟨rfl, rfl, rfl, rfl⟩
    · rw [if_neg e, if_neg e, if_neg (by omega), if_neg (by omega), if_neg (by omega), if_neg (by omega), if_neg (by omega), if_neg (by omega), if_neg (by omega), if_neg (by omega), if_neg (by omega)]
      exact h.2.2 j (by omega)
theorem addC_onl {n : Nat} {k f s t : Int32} {c : CF} : Onl0 c (addC 0 n k f s t c) := fun q i h1 h2 h3 _ => addC_oth 0 n k f s t c q i h1 h2 h3
/-- a line's numbers made others -/
def setL (f : Nat → Ln) (j : Nat) (q : Ln) : Nat → Ln := fun i => if i = j then q else f i
theorem RepB.src {b : Nat} {c : CF} {z : Sg} {j x y : Nat} (h : RepB b c z) (hb : b < 7) (hj : j < z.1) (hk : (z.2.2 j).1 = 0) : RepB b (up (up c (30 + b) (3 * j) (nI x)) (30 + b) (3 * j + 1) (nI y)) (z.1, z.2.1, setL z.2.2 j (0, x, y, (z.2.2 j).2.2.2)) := by
  refine ⟨?_, ?_, fun i hi => ?_⟩
  · rw [up_at, if_neg (by omega), up_at, if_neg (by omega)]
    exact h.1
  · rw [up_at, if_neg (by omega), up_at, if_neg (by omega)]
    exact h.2.1
  · have h3 := h.2.2 i hi
    show LnAt b _ i (if i = j then (0, x, y, (z.2.2 j).2.2.2) else z.2.2 i)
    unfold LnAt at h3 ⊢
    rw [up_at, if_neg (by omega), up_at, if_neg (by omega)]
    simp only [up_at]
    by_cases e : i = j
    · subst e
      rw [if_pos rfl, if_neg (by omega), if_pos ⟨trivial, rfl⟩, if_pos ⟨trivial, rfl⟩, if_neg (by omega), if_neg (by omega)]
      exact ⟨hk ▸ h3.1, rfl, rfl, h3.2.2.2⟩
    · rw [if_neg e, if_neg (by omega), if_neg (by omega), if_neg (by omega), if_neg (by omega), if_neg (by omega), if_neg (by omega)]
      exact h3
theorem RepB.drop {c : CF} {z : Sg} {n : Nat} (h : RepB 0 c z) (hn : z.1 = n + 1) : RepB 0 (up c 2 0 (nI n)) (n, z.2) := by
  refine ⟨?_, up_s _ _ _ _, fun i hi => ?_⟩
  · rw [up_at, if_neg (by omega)]
    exact h.1
  · have hi : i < n := hi
    have h3 := h.2.2 i (by omega)
    show LnAt 0 _ i (z.2.2 i)
    unfold LnAt at h3 ⊢
    simp only [up_at]
    rw [if_neg (by omega), if_neg (by omega), if_neg (by omega), if_neg (by omega)]
    exact h3
theorem RepB.len {c : CF} {z : Sg} {n : Nat} (h : RepB 0 c z) : RepB 0 (up c 1 0 (nI n)) (z.1, n, z.2.2) := by
  refine ⟨up_s _ _ _ _, ?_, fun i hi => ?_⟩
  · rw [up_at, if_neg (by omega)]
    exact h.2.1
  · have h3 := h.2.2 i hi
    show LnAt 0 _ i (z.2.2 i)
    unfold LnAt at h3 ⊢
    simp only [up_at]
    rw [if_neg (by omega), if_neg (by omega), if_neg (by omega), if_neg (by omega)]
    exact h3
/-- lines m of g behind the lines -/
def appL (z : Sg) (m : Nat) (g : Nat → Ln) : Sg := (z.1 + m, z.2.1, fun j => if j < z.1 then z.2.2 j else g (j - z.1))
theorem RepB.app {c c' : CF} {z : Sg} {m : Nat} {g : Nat → Ln} (h : RepB 0 c z) (hg : RepL 2 c m g) (hc : CopyP 0 2 z.1 m c c') : RepB 0 c' (appL z m g) ∧ Onl0 c c' := by
  obtain ⟨p1, p2, p3, p4, p5⟩ := hc
  refine ⟨⟨?_, p1, fun j hj => ?_⟩, fun q i h1 h2 h3 _ => p5 q i h1 h2 h3⟩
  · rw [p5 1 0 (by decide) (by decide) (by decide)]
    exact h.1
  · have hj : j < z.1 + m := hj
    show LnAt 0 _ j (if j < z.1 then z.2.2 j else g (j - z.1))
    by_cases e : j < z.1
    · rw [if_pos e]
      have h3 := h.2.2 j e
      unfold LnAt at h3 ⊢
      rw [p3 j e, p4 _ (by omega), p4 _ (by omega), p4 _ (by omega)]
      exact h3
    · rw [if_neg e]
      have h3 := hg.2 (j - z.1) (by omega)
      have h4 := p2 (j - z.1) (by omega)
      have ej : z.1 + (j - z.1) = j := by omega
      rw [ej] at h4
      unfold LnAt at h3 ⊢
      rw [h4.1, show 3 * j = 3 * j + 0 from rfl, h4.2 0 (by omega), h4.2 1 (by omega), h4.2 2 (by omega)]
      exact h3
