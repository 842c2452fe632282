section LW
variable {p : Program} {l : Launch} {e : Env} {R : Room} {s : State} {m : MethodId} {args : Array Value} {below : List Frame} {meth : Method} {co : Code} {H : Heap} {locs : List Loc} {cells slots : Nat} {Q : State → Prop} {cc : ByteArray} {pc : Nat} {ls : Array Slot} {rest : List Value} {E : EV} {u : SS} {nL : Nat} {own : String} {ret : Option FieldType} {b L : Nat} {xs : Nat → Int32}
/-- the script and where it lies -/
def Scp (E : EV) (s : State) (b L : Nat) (xs : Nat → Int32) : Prop := va_X b L xs s s.heap ∧ b < s.heap.size ∧ ¬ eR E b ∧ L ≤ 2048
theorem slN (F : Fx E p s m args meth co cc nL own ret) (hI : Iv E s H locs u) (hB : Scp E s b L xs) {i : Nat} (hin : i < L) (hdg : decode cc pc = .ok (.iaload, 1)) (k : W p l e R s m args below meth co H locs cells slots Q (F0 m (pc + 1) ls (.int (xs i) :: rest))) : W p l e R s m args below meth co H locs cells slots Q (F0 m pc ls (.int (nI i) :: .ref b :: rest)) := by
  have h9 := hB.2.2.2
  refine va_sld F.1 F.2.1 hB.1 hB.2.1 hB.2.2.1 hI.2 (nI_arr hin (by omega)).1 hdg ?_
  rw [(nI_arr hin (by omega)).2]
  exact k
theorem snL (F : Fx E p s m args meth co cc nL own ret) (hI : Iv E s H locs u) (hB : Scp E s b L xs) (hdg : decode cc pc = .ok (.arraylength, 1)) (k : W p l e R s m args below meth co H locs cells slots Q (F0 m (pc + 1) ls (.int (nI L) :: rest))) : W p l e R s m args below meth co H locs cells slots Q (F0 m pc ls (.ref b :: rest)) := va_slen F.1 F.2.1 hB.1 hB.2.1 hB.2.2.1 hI.2 hdg k
end LW
theorem and31 (x : Int32) : ∃ n, n < 32 ∧ x &&& nI 31 = nI n := by
  refine ⟨(x &&& nI 31).toBitVec.toNat, ?_, ?_⟩
  · have h1 : (x &&& nI 31).toBitVec = x.toBitVec &&& 31#32 := rfl
    rw [h1, BitVec.toNat_and]
    exact Nat.lt_of_le_of_lt Nat.and_le_right (by decide)
  · apply Int32.toBitVec_inj.mp
    show _ = BitVec.ofNat 32 _
    simp
theorem chN (x : Int32) : (Int32.toUInt32 x % 65536).toInt32 = nI (x.toUInt32.toNat % 65536) := by
  apply Int32.toBitVec_inj.mp
  show _ = BitVec.ofNat 32 _
  apply BitVec.eq_of_toNat_eq
  simp
  show x.toBitVec.toNat % 65536 = x.toBitVec.toNat % 65536 % 4294967296
  omega
theorem ch_lt (x : Int32) : x.toUInt32.toNat % 65536 < 65536 := Nat.mod_lt _ (by decide)
theorem more_no {L i : Nat} (hL : L ≤ 2048) (hi : i ≤ L) (h : ¬ nI L - nI 4 < nI i) : i + 4 ≤ L := by
  rw [il, pk_sub_toInt (by omega) (by decide), nT (by omega)] at h
  omega
theorem sw_out {n : Nat} (h : 22 ≤ n) (h2 : n < 32) : (nI n).toInt < 0 ∨ 21 < (nI n).toInt := by
  rw [nT (by omega)]
  omega
