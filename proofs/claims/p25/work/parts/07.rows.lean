section LKS
variable {p : Program} {l : Launch} {e : Env} {R : Room} {s : State} {m : MethodId} {args : Array Value} {below : List Frame} {meth : Method} {co : Code} {H : Heap} {locs : List Loc} {cells slots : Nat} {Q : State → Prop}
variable {cc : ByteArray} {pc : Nat} {ls : Array Slot} {rest st : List Value} {E : EV} {u : SS} {nL : Nat} {own : String} {ret : Option FieldType}
theorem wB (E : EV) (u : SS) {b : Nat} (hb : b < 7) : (wl E u)[10 + 3 * b]? = some (eA E (10 + 3 * b), .inr (0, [.int (u.1 1 b), .int (u.1 2 b), .ref (eA E (11 + 3 * b)), .ref (eA E (12 + 3 * b))])) := by
  match b, hb with
  | 0, _ => rfl
  | 1, _ => rfl
  | 2, _ => rfl
  | 3, _ => rfl
  | 4, _ => rfl
  | 5, _ => rfl
  | 6, _ => rfl
  | n + 7, h => exact absurd h (by omega)
theorem sB0 (E : EV) (u : SS) {b : Nat} (hb : b < 7) (v : Int32) : (wl E u).set (10 + 3 * b) (eA E (10 + 3 * b), .inr (0, ([.int (u.1 1 b), .int (u.1 2 b), .ref (eA E (11 + 3 * b)), .ref (eA E (12 + 3 * b))] : List Value).set 0 (.int v))) = wl E (up u.1 1 b v, u.2) := by
  match b, hb with
  | 0, _ => rfl
  | 1, _ => rfl
  | 2, _ => rfl
  | 3, _ => rfl
  | 4, _ => rfl
  | 5, _ => rfl
  | 6, _ => rfl
  | n + 7, h => exact absurd h (by omega)
theorem sB1 (E : EV) (u : SS) {b : Nat} (hb : b < 7) (v : Int32) : (wl E u).set (10 + 3 * b) (eA E (10 + 3 * b), .inr (0, ([.int (u.1 1 b), .int (u.1 2 b), .ref (eA E (11 + 3 * b)), .ref (eA E (12 + 3 * b))] : List Value).set 1 (.int v))) = wl E (up u.1 2 b v, u.2) := by
  match b, hb with
  | 0, _ => rfl
  | 1, _ => rfl
  | 2, _ => rfl
  | 3, _ => rfl
  | 4, _ => rfl
  | 5, _ => rfl
  | 6, _ => rfl
  | n + 7, h => exact absurd h (by omega)
theorem gX0_length (F : Fx E p s m args meth co cc nL own ret) (hI : Iv E s H locs u) {idx b : Nat} (hb : b < 7) (hL : FLk own idx "ShareStreams$Bench" "length" "I") (hdg : decode cc pc = .ok (.getfield idx, 3)) (kk : W p l e R s m args below meth co H locs cells slots Q (F0 m (pc + 3) ls (.int (u.1 1 b) :: rest))) : W p l e R s m args below meth co H locs cells slots Q (F0 m pc ls (.ref (eA E (10 + 3 * b)) :: rest)) := fG F hI (10 + 3 * b) (wB E u hb) rfl inlX0 0 (by decide) hL rfl rfl hdg kk
theorem pX0_length (F : Fx E p s m args meth co cc nL own ret) (hI : Iv E s H locs u) {idx b : Nat} {v : Int32} (hb : b < 7) (hL : FLk own idx "ShareStreams$Bench" "length" "I") (hdg : decode cc pc = .ok (.putfield idx, 3)) (kk : ∀ (H1 : Heap) (locs1 : List Loc), Iv E s H1 locs1 (up u.1 1 b v, u.2) → W p l e R s m args below meth co H1 locs1 cells slots Q (F0 m (pc + 3) ls (rest))) : W p l e R s m args below meth co H locs cells slots Q (F0 m pc ls (.int v :: .ref (eA E (10 + 3 * b)) :: rest)) := fP F hI (10 + 3 * b) (wB E u hb) rfl inlX0 tyX0 tyX0_ok nmX0 0 (by decide) hL rfl rfl rfl rfl (Nat.le_of_ble_eq_true rfl) (sB0 E u hb v) hdg kk
theorem gX0_size (F : Fx E p s m args meth co cc nL own ret) (hI : Iv E s H locs u) {idx b : Nat} (hb : b < 7) (hL : FLk own idx "ShareStreams$Bench" "size" "I") (hdg : decode cc pc = .ok (.getfield idx, 3)) (kk : W p l e R s m args below meth co H locs cells slots Q (F0 m (pc + 3) ls (.int (u.1 2 b) :: rest))) : W p l e R s m args below meth co H locs cells slots Q (F0 m pc ls (.ref (eA E (10 + 3 * b)) :: rest)) := fG F hI (10 + 3 * b) (wB E u hb) rfl inlX0 1 (by decide) hL rfl rfl hdg kk
theorem pX0_size (F : Fx E p s m args meth co cc nL own ret) (hI : Iv E s H locs u) {idx b : Nat} {v : Int32} (hb : b < 7) (hL : FLk own idx "ShareStreams$Bench" "size" "I") (hdg : decode cc pc = .ok (.putfield idx, 3)) (kk : ∀ (H1 : Heap) (locs1 : List Loc), Iv E s H1 locs1 (up u.1 2 b v, u.2) → W p l e R s m args below meth co H1 locs1 cells slots Q (F0 m (pc + 3) ls (rest))) : W p l e R s m args below meth co H locs cells slots Q (F0 m pc ls (.int v :: .ref (eA E (10 + 3 * b)) :: rest)) := fP F hI (10 + 3 * b) (wB E u hb) rfl inlX0 tyX0 tyX0_ok nmX0 1 (by decide) hL rfl rfl rfl rfl (Nat.le_of_ble_eq_true rfl) (sB1 E u hb v) hdg kk
theorem gX0_kinds (F : Fx E p s m args meth co cc nL own ret) (hI : Iv E s H locs u) {idx b : Nat} (hb : b < 7) (hL : FLk own idx "ShareStreams$Bench" "kinds" "[I") (hdg : decode cc pc = .ok (.getfield idx, 3)) (kk : W p l e R s m args below meth co H locs cells slots Q (F0 m (pc + 3) ls (.ref (eA E (11 + 3 * b)) :: rest))) : W p l e R s m args below meth co H locs cells slots Q (F0 m pc ls (.ref (eA E (10 + 3 * b)) :: rest)) := fG F hI (10 + 3 * b) (wB E u hb) rfl inlX0 2 (by decide) hL rfl rfl hdg kk
theorem gX0_numbers (F : Fx E p s m args meth co cc nL own ret) (hI : Iv E s H locs u) {idx b : Nat} (hb : b < 7) (hL : FLk own idx "ShareStreams$Bench" "numbers" "[I") (hdg : decode cc pc = .ok (.getfield idx, 3)) (kk : W p l e R s m args below meth co H locs cells slots Q (F0 m (pc + 3) ls (.ref (eA E (12 + 3 * b)) :: rest))) : W p l e R s m args below meth co H locs cells slots Q (F0 m pc ls (.ref (eA E (10 + 3 * b)) :: rest)) := fG F hI (10 + 3 * b) (wB E u hb) rfl inlX0 3 (by decide) hL rfl rfl hdg kk
theorem wX1 (E : EV) (u : SS) : (wl E u)[3]? = some (eA E 3, .inr (1, [.ref (eA E 4), .int (u.1 0 3), .int (u.1 0 4)])) := rfl
theorem gX1_characters (F : Fx E p s m args meth co cc nL own ret) (hI : Iv E s H locs u) {idx : Nat} (hL : FLk own idx "ShareStreams$CircuitText" "characters" "[C") (hdg : decode cc pc = .ok (.getfield idx, 3)) (kk : W p l e R s m args below meth co H locs cells slots Q (F0 m (pc + 3) ls (.ref (eA E 4) :: rest))) : W p l e R s m args below meth co H locs cells slots Q (F0 m pc ls (.ref (eA E 3) :: rest)) := fG F hI 3 (wX1 E u) rfl inlX1 0 (by decide) hL rfl rfl hdg kk
theorem gX1_size (F : Fx E p s m args meth co cc nL own ret) (hI : Iv E s H locs u) {idx : Nat} (hL : FLk own idx "ShareStreams$CircuitText" "size" "I") (hdg : decode cc pc = .ok (.getfield idx, 3)) (kk : W p l e R s m args below meth co H locs cells slots Q (F0 m (pc + 3) ls (.int (u.1 0 3) :: rest))) : W p l e R s m args below meth co H locs cells slots Q (F0 m pc ls (.ref (eA E 3) :: rest)) := fG F hI 3 (wX1 E u) rfl inlX1 1 (by decide) hL rfl rfl hdg kk
theorem sX1_size (E : EV) (u : SS) (v : Int32) : (wl E u).set 3 (eA E 3, .inr (1, ([.ref (eA E 4), .int (u.1 0 3), .int (u.1 0 4)] : List Value).set 1 (.int v))) = wl E (up u.1 0 3 v, u.2) := rfl
theorem pX1_size (F : Fx E p s m args meth co cc nL own ret) (hI : Iv E s H locs u) {idx : Nat} {v : Int32} (hL : FLk own idx "ShareStreams$CircuitText" "size" "I") (hdg : decode cc pc = .ok (.putfield idx, 3)) (kk : ∀ (H1 : Heap) (locs1 : List Loc), Iv E s H1 locs1 (up u.1 0 3 v, u.2) → W p l e R s m args below meth co H1 locs1 cells slots Q (F0 m (pc + 3) ls (rest))) : W p l e R s m args below meth co H locs cells slots Q (F0 m pc ls (.int v :: .ref (eA E 3) :: rest)) := fP F hI 3 (wX1 E u) rfl inlX1 tyX1 tyX1_ok nmX1 1 (by decide) hL rfl rfl rfl rfl (Nat.le_of_ble_eq_true rfl) (sX1_size E u v) hdg kk
theorem gX1_place (F : Fx E p s m args meth co cc nL own ret) (hI : Iv E s H locs u) {idx : Nat} (hL : FLk own idx "ShareStreams$CircuitText" "place" "I") (hdg : decode cc pc = .ok (.getfield idx, 3)) (kk : W p l e R s m args below meth co H locs cells slots Q (F0 m (pc + 3) ls (.int (u.1 0 4) :: rest))) : W p l e R s m args below meth co H locs cells slots Q (F0 m pc ls (.ref (eA E 3) :: rest)) := fG F hI 3 (wX1 E u) rfl inlX1 2 (by decide) hL rfl rfl hdg kk
theorem sX1_place (E : EV) (u : SS) (v : Int32) : (wl E u).set 3 (eA E 3, .inr (1, ([.ref (eA E 4), .int (u.1 0 3), .int (u.1 0 4)] : List Value).set 2 (.int v))) = wl E (up u.1 0 4 v, u.2) := rfl
theorem pX1_place (F : Fx E p s m args meth co cc nL own ret) (hI : Iv E s H locs u) {idx : Nat} {v : Int32} (hL : FLk own idx "ShareStreams$CircuitText" "place" "I") (hdg : decode cc pc = .ok (.putfield idx, 3)) (kk : ∀ (H1 : Heap) (locs1 : List Loc), Iv E s H1 locs1 (up u.1 0 4 v, u.2) → W p l e R s m args below meth co H1 locs1 cells slots Q (F0 m (pc + 3) ls (rest))) : W p l e R s m args below meth co H locs cells slots Q (F0 m pc ls (.int v :: .ref (eA E 3) :: rest)) := fP F hI 3 (wX1 E u) rfl inlX1 tyX1 tyX1_ok nmX1 2 (by decide) hL rfl rfl rfl rfl (Nat.le_of_ble_eq_true rfl) (sX1_place E u v) hdg kk
theorem wX2 (E : EV) (u : SS) : (wl E u)[5]? = some (eA E 5, .inr (2, [.ref (eA E 6), .ref (eA E 7), .ref (eA E 8)])) := rfl
theorem gX2_exactShares (F : Fx E p s m args meth co cc nL own ret) (hI : Iv E s H locs u) {idx : Nat} (hL : FLk own idx "ShareStreams$Figures" "exactShares" "[I") (hdg : decode cc pc = .ok (.getfield idx, 3)) (kk : W p l e R s m args below meth co H locs cells slots Q (F0 m (pc + 3) ls (.ref (eA E 6) :: rest))) : W p l e R s m args below meth co H locs cells slots Q (F0 m pc ls (.ref (eA E 5) :: rest)) := fG F hI 5 (wX2 E u) rfl inlX2 0 (by decide) hL rfl rfl hdg kk
theorem gX2_depths (F : Fx E p s m args meth co cc nL own ret) (hI : Iv E s H locs u) {idx : Nat} (hL : FLk own idx "ShareStreams$Figures" "depths" "[I") (hdg : decode cc pc = .ok (.getfield idx, 3)) (kk : W p l e R s m args below meth co H locs cells slots Q (F0 m (pc + 3) ls (.ref (eA E 7) :: rest))) : W p l e R s m args below meth co H locs cells slots Q (F0 m pc ls (.ref (eA E 5) :: rest)) := fG F hI 5 (wX2 E u) rfl inlX2 1 (by decide) hL rfl rfl hdg kk
theorem gX2_origins (F : Fx E p s m args meth co cc nL own ret) (hI : Iv E s H locs u) {idx : Nat} (hL : FLk own idx "ShareStreams$Figures" "origins" "[I") (hdg : decode cc pc = .ok (.getfield idx, 3)) (kk : W p l e R s m args below meth co H locs cells slots Q (F0 m (pc + 3) ls (.ref (eA E 8) :: rest))) : W p l e R s m args below meth co H locs cells slots Q (F0 m pc ls (.ref (eA E 5) :: rest)) := fG F hI 5 (wX2 E u) rfl inlX2 2 (by decide) hL rfl rfl hdg kk
theorem wX3 (E : EV) (u : SS) : (wl E u)[1]? = some (eA E 1, .inr (3, [.ref (eA E 2), .int (u.1 0 1), .int (u.1 0 2)])) := rfl
theorem gX3_states (F : Fx E p s m args meth co cc nL own ret) (hI : Iv E s H locs u) {idx : Nat} (hL : FLk own idx "ShareStreams$History" "states" "[LShareStreams$Bench;") (hdg : decode cc pc = .ok (.getfield idx, 3)) (kk : W p l e R s m args below meth co H locs cells slots Q (F0 m (pc + 3) ls (.ref (eA E 2) :: rest))) : W p l e R s m args below meth co H locs cells slots Q (F0 m pc ls (.ref (eA E 1) :: rest)) := fG F hI 1 (wX3 E u) rfl inlX3 0 (by decide) hL rfl rfl hdg kk
theorem gX3_oldest (F : Fx E p s m args meth co cc nL own ret) (hI : Iv E s H locs u) {idx : Nat} (hL : FLk own idx "ShareStreams$History" "oldest" "I") (hdg : decode cc pc = .ok (.getfield idx, 3)) (kk : W p l e R s m args below meth co H locs cells slots Q (F0 m (pc + 3) ls (.int (u.1 0 1) :: rest))) : W p l e R s m args below meth co H locs cells slots Q (F0 m pc ls (.ref (eA E 1) :: rest)) := fG F hI 1 (wX3 E u) rfl inlX3 1 (by decide) hL rfl rfl hdg kk
theorem sX3_oldest (E : EV) (u : SS) (v : Int32) : (wl E u).set 1 (eA E 1, .inr (3, ([.ref (eA E 2), .int (u.1 0 1), .int (u.1 0 2)] : List Value).set 1 (.int v))) = wl E (up u.1 0 1 v, u.2) := rfl
theorem pX3_oldest (F : Fx E p s m args meth co cc nL own ret) (hI : Iv E s H locs u) {idx : Nat} {v : Int32} (hL : FLk own idx "ShareStreams$History" "oldest" "I") (hdg : decode cc pc = .ok (.putfield idx, 3)) (kk : ∀ (H1 : Heap) (locs1 : List Loc), Iv E s H1 locs1 (up u.1 0 1 v, u.2) → W p l e R s m args below meth co H1 locs1 cells slots Q (F0 m (pc + 3) ls (rest))) : W p l e R s m args below meth co H locs cells slots Q (F0 m pc ls (.int v :: .ref (eA E 1) :: rest)) := fP F hI 1 (wX3 E u) rfl inlX3 tyX3 tyX3_ok nmX3 1 (by decide) hL rfl rfl rfl rfl (Nat.le_of_ble_eq_true rfl) (sX3_oldest E u v) hdg kk
theorem gX3_size (F : Fx E p s m args meth co cc nL own ret) (hI : Iv E s H locs u) {idx : Nat} (hL : FLk own idx "ShareStreams$History" "size" "I") (hdg : decode cc pc = .ok (.getfield idx, 3)) (kk : W p l e R s m args below meth co H locs cells slots Q (F0 m (pc + 3) ls (.int (u.1 0 2) :: rest))) : W p l e R s m args below meth co H locs cells slots Q (F0 m pc ls (.ref (eA E 1) :: rest)) := fG F hI 1 (wX3 E u) rfl inlX3 2 (by decide) hL rfl rfl hdg kk
theorem sX3_size (E : EV) (u : SS) (v : Int32) : (wl E u).set 1 (eA E 1, .inr (3, ([.ref (eA E 2), .int (u.1 0 1), .int (u.1 0 2)] : List Value).set 2 (.int v))) = wl E (up u.1 0 2 v, u.2) := rfl
theorem pX3_size (F : Fx E p s m args meth co cc nL own ret) (hI : Iv E s H locs u) {idx : Nat} {v : Int32} (hL : FLk own idx "ShareStreams$History" "size" "I") (hdg : decode cc pc = .ok (.putfield idx, 3)) (kk : ∀ (H1 : Heap) (locs1 : List Loc), Iv E s H1 locs1 (up u.1 0 2 v, u.2) → W p l e R s m args below meth co H1 locs1 cells slots Q (F0 m (pc + 3) ls (rest))) : W p l e R s m args below meth co H locs cells slots Q (F0 m pc ls (.int v :: .ref (eA E 1) :: rest)) := fP F hI 1 (wX3 E u) rfl inlX3 tyX3 tyX3_ok nmX3 2 (by decide) hL rfl rfl rfl rfl (Nat.le_of_ble_eq_true rfl) (sX3_size E u v) hdg kk
theorem wX4 (E : EV) (u : SS) : (wl E u)[9]? = some (eA E 9, .inr (4, [.ref (eA E 31)])) := rfl
theorem gX4_rows (F : Fx E p s m args meth co cc nL own ret) (hI : Iv E s H locs u) {idx : Nat} (hL : FLk own idx "ShareStreams$Streams" "rows" "[[J") (hdg : decode cc pc = .ok (.getfield idx, 3)) (kk : W p l e R s m args below meth co H locs cells slots Q (F0 m (pc + 3) ls (.ref (eA E 31) :: rest))) : W p l e R s m args below meth co H locs cells slots Q (F0 m pc ls (.ref (eA E 9) :: rest)) := fG F hI 9 (wX4 E u) rfl inlX4 0 (by decide) hL rfl rfl hdg kk
theorem wX5 (E : EV) (u : SS) : (wl E u)[0]? = some (eA E 0, .inr (5, [.ref (eA E 10), .ref (eA E 13), .int (u.1 0 0), .ref (eA E 16), .ref (eA E 1), .ref (eA E 3), .ref (eA E 5), .ref (eA E 9)])) := rfl
theorem gX5_bench (F : Fx E p s m args meth co cc nL own ret) (hI : Iv E s H locs u) {idx : Nat} (hL : FLk own idx "ShareStreams" "bench" "LShareStreams$Bench;") (hdg : decode cc pc = .ok (.getfield idx, 3)) (kk : W p l e R s m args below meth co H locs cells slots Q (F0 m (pc + 3) ls (.ref (eA E 10) :: rest))) : W p l e R s m args below meth co H locs cells slots Q (F0 m pc ls (.ref (eA E 0) :: rest)) := fG F hI 0 (wX5 E u) rfl inlX5 0 (by decide) hL rfl rfl hdg kk
theorem gX5_snapshot (F : Fx E p s m args meth co cc nL own ret) (hI : Iv E s H locs u) {idx : Nat} (hL : FLk own idx "ShareStreams" "snapshot" "LShareStreams$Bench;") (hdg : decode cc pc = .ok (.getfield idx, 3)) (kk : W p l e R s m args below meth co H locs cells slots Q (F0 m (pc + 3) ls (.ref (eA E 13) :: rest))) : W p l e R s m args below meth co H locs cells slots Q (F0 m pc ls (.ref (eA E 0) :: rest)) := fG F hI 0 (wX5 E u) rfl inlX5 1 (by decide) hL rfl rfl hdg kk
theorem gX5_hasSnapshot (F : Fx E p s m args meth co cc nL own ret) (hI : Iv E s H locs u) {idx : Nat} (hL : FLk own idx "ShareStreams" "hasSnapshot" "Z") (hdg : decode cc pc = .ok (.getfield idx, 3)) (kk : W p l e R s m args below meth co H locs cells slots Q (F0 m (pc + 3) ls (.int (u.1 0 0) :: rest))) : W p l e R s m args below meth co H locs cells slots Q (F0 m pc ls (.ref (eA E 0) :: rest)) := fG F hI 0 (wX5 E u) rfl inlX5 2 (by decide) hL rfl rfl hdg kk
theorem sX5_hasSnapshot (E : EV) (u : SS) (v : Int32) : (wl E u).set 0 (eA E 0, .inr (5, ([.ref (eA E 10), .ref (eA E 13), .int (u.1 0 0), .ref (eA E 16), .ref (eA E 1), .ref (eA E 3), .ref (eA E 5), .ref (eA E 9)] : List Value).set 2 (.int v))) = wl E (up u.1 0 0 v, u.2) := rfl
theorem pX5_hasSnapshot (F : Fx E p s m args meth co cc nL own ret) (hI : Iv E s H locs u) {idx : Nat} {v : Int32} (hz : narrow .boolean (.int v) = .int v) (hz2 : fits .boolean (.int v) = true) (hL : FLk own idx "ShareStreams" "hasSnapshot" "Z") (hdg : decode cc pc = .ok (.putfield idx, 3)) (kk : ∀ (H1 : Heap) (locs1 : List Loc), Iv E s H1 locs1 (up u.1 0 0 v, u.2) → W p l e R s m args below meth co H1 locs1 cells slots Q (F0 m (pc + 3) ls (rest))) : W p l e R s m args below meth co H locs cells slots Q (F0 m pc ls (.int v :: .ref (eA E 0) :: rest)) := fP F hI 0 (wX5 E u) rfl inlX5 tyX5 tyX5_ok nmX5 2 (by decide) hL rfl rfl hz hz2 (Nat.le_of_ble_eq_true rfl) (sX5_hasSnapshot E u v) hdg kk
theorem gX5_spare (F : Fx E p s m args meth co cc nL own ret) (hI : Iv E s H locs u) {idx : Nat} (hL : FLk own idx "ShareStreams" "spare" "LShareStreams$Bench;") (hdg : decode cc pc = .ok (.getfield idx, 3)) (kk : W p l e R s m args below meth co H locs cells slots Q (F0 m (pc + 3) ls (.ref (eA E 16) :: rest))) : W p l e R s m args below meth co H locs cells slots Q (F0 m pc ls (.ref (eA E 0) :: rest)) := fG F hI 0 (wX5 E u) rfl inlX5 3 (by decide) hL rfl rfl hdg kk
theorem gX5_history (F : Fx E p s m args meth co cc nL own ret) (hI : Iv E s H locs u) {idx : Nat} (hL : FLk own idx "ShareStreams" "history" "LShareStreams$History;") (hdg : decode cc pc = .ok (.getfield idx, 3)) (kk : W p l e R s m args below meth co H locs cells slots Q (F0 m (pc + 3) ls (.ref (eA E 1) :: rest))) : W p l e R s m args below meth co H locs cells slots Q (F0 m pc ls (.ref (eA E 0) :: rest)) := fG F hI 0 (wX5 E u) rfl inlX5 4 (by decide) hL rfl rfl hdg kk
theorem gX5_text (F : Fx E p s m args meth co cc nL own ret) (hI : Iv E s H locs u) {idx : Nat} (hL : FLk own idx "ShareStreams" "text" "LShareStreams$CircuitText;") (hdg : decode cc pc = .ok (.getfield idx, 3)) (kk : W p l e R s m args below meth co H locs cells slots Q (F0 m (pc + 3) ls (.ref (eA E 3) :: rest))) : W p l e R s m args below meth co H locs cells slots Q (F0 m pc ls (.ref (eA E 0) :: rest)) := fG F hI 0 (wX5 E u) rfl inlX5 5 (by decide) hL rfl rfl hdg kk
theorem gX5_figures (F : Fx E p s m args meth co cc nL own ret) (hI : Iv E s H locs u) {idx : Nat} (hL : FLk own idx "ShareStreams" "figures" "LShareStreams$Figures;") (hdg : decode cc pc = .ok (.getfield idx, 3)) (kk : W p l e R s m args below meth co H locs cells slots Q (F0 m (pc + 3) ls (.ref (eA E 5) :: rest))) : W p l e R s m args below meth co H locs cells slots Q (F0 m pc ls (.ref (eA E 0) :: rest)) := fG F hI 0 (wX5 E u) rfl inlX5 6 (by decide) hL rfl rfl hdg kk
theorem gX5_streams (F : Fx E p s m args meth co cc nL own ret) (hI : Iv E s H locs u) {idx : Nat} (hL : FLk own idx "ShareStreams" "streams" "LShareStreams$Streams;") (hdg : decode cc pc = .ok (.getfield idx, 3)) (kk : W p l e R s m args below meth co H locs cells slots Q (F0 m (pc + 3) ls (.ref (eA E 9) :: rest))) : W p l e R s m args below meth co H locs cells slots Q (F0 m pc ls (.ref (eA E 0) :: rest)) := fG F hI 0 (wX5 E u) rfl inlX5 7 (by decide) hL rfl rfl hdg kk
theorem iK {b : Nat} (hb : b < 7) : IsI (11 + 3 * b) (20 + b) 16 := fun E u => ⟨by
  match b, hb with
  | 0, _ => rfl
  | 1, _ => rfl
  | 2, _ => rfl
  | 3, _ => rfl
  | 4, _ => rfl
  | 5, _ => rfl
  | 6, _ => rfl
  | n + 7, h => exact absurd h (by omega), fun i x => by
  match b, hb with
  | 0, _ => rfl
  | 1, _ => rfl
  | 2, _ => rfl
  | 3, _ => rfl
  | 4, _ => rfl
  | 5, _ => rfl
  | 6, _ => rfl
  | n + 7, h => exact absurd h (by omega)⟩
theorem iN {b : Nat} (hb : b < 7) : IsI (12 + 3 * b) (30 + b) 48 := fun E u => ⟨by
  match b, hb with
  | 0, _ => rfl
  | 1, _ => rfl
  | 2, _ => rfl
  | 3, _ => rfl
  | 4, _ => rfl
  | 5, _ => rfl
  | 6, _ => rfl
  | n + 7, h => exact absurd h (by omega), fun i x => by
  match b, hb with
  | 0, _ => rfl
  | 1, _ => rfl
  | 2, _ => rfl
  | 3, _ => rfl
  | 4, _ => rfl
  | 5, _ => rfl
  | 6, _ => rfl
  | n + 7, h => exact absurd h (by omega)⟩
theorem iRow {b : Nat} (hb : b < 16) : IsL (32 + b) b := fun E u => ⟨by
  match b, hb with
  | 0, _ => rfl
  | 1, _ => rfl
  | 2, _ => rfl
  | 3, _ => rfl
  | 4, _ => rfl
  | 5, _ => rfl
  | 6, _ => rfl
  | 7, _ => rfl
  | 8, _ => rfl
  | 9, _ => rfl
  | 10, _ => rfl
  | 11, _ => rfl
  | 12, _ => rfl
  | 13, _ => rfl
  | 14, _ => rfl
  | 15, _ => rfl
  | n + 16, h => exact absurd h (by omega), fun i x => by
  match b, hb with
  | 0, _ => rfl
  | 1, _ => rfl
  | 2, _ => rfl
  | 3, _ => rfl
  | 4, _ => rfl
  | 5, _ => rfl
  | 6, _ => rfl
  | 7, _ => rfl
  | 8, _ => rfl
  | 9, _ => rfl
  | 10, _ => rfl
  | 11, _ => rfl
  | 12, _ => rfl
  | 13, _ => rfl
  | 14, _ => rfl
  | 15, _ => rfl
  | n + 16, h => exact absurd h (by omega)⟩
theorem iX2_exactShares : IsI 6 3 16 := fun _ _ => ⟨rfl, fun _ _ => rfl⟩
theorem iX2_depths : IsI 7 4 16 := fun _ _ => ⟨rfl, fun _ _ => rfl⟩
theorem iX2_origins : IsI 8 5 16 := fun _ _ => ⟨rfl, fun _ _ => rfl⟩
theorem rX0 (F : Fx E p s m args meth co cc nL own ret) (hI : Iv E s H locs u) {b : Nat} (hb : b < 7) : ∃ cell : Cell, H[eA E (10 + 3 * b)]? = some cell ∧ cell.vm.isStatics = false ∧ s.vm.findClass RX0 = some cell.cls := va_recv F.2.2.2.2.2.1.1 hI.1.1 (ci := 0) (q := (RX0, TX0, 4)) rfl (wB E u hb)
theorem rX5 (F : Fx E p s m args meth co cc nL own ret) (hI : Iv E s H locs u) : ∃ cell : Cell, H[eA E 0]? = some cell ∧ cell.vm.isStatics = false ∧ s.vm.findClass RX5 = some cell.cls := va_recv F.2.2.2.2.2.1.1 hI.1.1 (ci := 5) (q := (RX5, TX5, 8)) rfl (wX5 E u)
theorem rX3 (F : Fx E p s m args meth co cc nL own ret) (hI : Iv E s H locs u) : ∃ cell : Cell, H[eA E 1]? = some cell ∧ cell.vm.isStatics = false ∧ s.vm.findClass RX3 = some cell.cls := va_recv F.2.2.2.2.2.1.1 hI.1.1 (ci := 3) (q := (RX3, TX3, 3)) rfl (wX3 E u)
theorem rX1 (F : Fx E p s m args meth co cc nL own ret) (hI : Iv E s H locs u) : ∃ cell : Cell, H[eA E 3]? = some cell ∧ cell.vm.isStatics = false ∧ s.vm.findClass RX1 = some cell.cls := va_recv F.2.2.2.2.2.1.1 hI.1.1 (ci := 1) (q := (RX1, TX1, 3)) rfl (wX1 E u)
theorem rX2 (F : Fx E p s m args meth co cc nL own ret) (hI : Iv E s H locs u) : ∃ cell : Cell, H[eA E 5]? = some cell ∧ cell.vm.isStatics = false ∧ s.vm.findClass RX2 = some cell.cls := va_recv F.2.2.2.2.2.1.1 hI.1.1 (ci := 2) (q := (RX2, TX2, 3)) rfl (wX2 E u)
theorem rX4 (F : Fx E p s m args meth co cc nL own ret) (hI : Iv E s H locs u) : ∃ cell : Cell, H[eA E 9]? = some cell ∧ cell.vm.isStatics = false ∧ s.vm.findClass RX4 = some cell.cls := va_recv F.2.2.2.2.2.1.1 hI.1.1 (ci := 4) (q := (RX4, TX4, 1)) rfl (wX4 E u)
theorem xV {As : List Value} {b : Nat} {C : String} {y : MethodName} {bytes : ByteArray} {maxL n idx f k : Nat} {ret' : Option FieldType} {Qc : Array Value → State → Outcome → State → Prop} {lv : List (Nat × Value)} (F : Fx E p s m args meth co cc nL own ret) (hI : Iv E s H locs u) (hl : lv_has ls nL lv) (hM : CT l y bytes maxL ret' (Rm f k) (.ref b :: As) E u Qc) (hL : LkV own idx C y bytes maxL ret' n) (hr : ∃ cell : Cell, H[b]? = some cell ∧ cell.vm.isStatics = false ∧ s.vm.findClass C = some cell.cls) (hn : As.length = n) (hR : f + 1 ≤ R.frames ∧ 8 + (maxL + 11) + k ≤ R.locals) (hf : cells ≤ R.cells ∧ slots ≤ R.slots) (hst : st = As.reverse ++ .ref b :: rest) (hW : (rest.map fun v => v.category).sum ≤ 8) (hdg : decode cc pc = .ok (.invokevirtual idx, 3)) :
    va_Run p l e R s m args below meth co H locs cells slots 0 0 (F0 m pc ls st) rest (Qc (Value.ref b :: As).toArray) (eR E) := by
  obtain ⟨⟨hl1, h2, h3, h4, h5, h6⟩, h7, h8⟩ := hL
  have ht := F.2.2.2.2.1
  have hp : PreV s H C b (va_Pc (.ref b :: As) (Pre E u)) As := ⟨Pre.blind, hr, fun U hU hW => ⟨rfl, by rw [hU]; exact hI.1, F.2.2.2.2.2.1.step hI.2 hU hW⟩⟩
  rcases hl1 with h1 | ⟨host, h1⟩
  · exact va_runV ⟨F.1, F.2.1, F.2.2.1, F.2.2.2.1, ht⟩ hM ⟨callB_of n ht (gW_in h3) rfl rfl rfl (ht _ h2) (ht _ h1) ⟨h4, h5, h6⟩ hR, ht _ h7, ht _ h8⟩ hp rfl hn hl.1 hst (lv_room hW) hdg hf
  · exact va_runVN ⟨F.1, F.2.1, F.2.2.1, F.2.2.2.1, ht⟩ hM ⟨va_cnB n ht (gW_in h3) rfl rfl rfl (F.2.2.2.2.2.1.2.1 _ h1) (ht _ h2) ⟨h4, h5, h6⟩ hR, ht _ h7, ht _ h8⟩ hp rfl hn hl.1 hst (lv_room hW) hdg hf
theorem xS {As : List Value} {y : MethodName} {bytes : ByteArray} {maxL n idx f k : Nat} {ret' : Option FieldType} {Qc : Array Value → State → Outcome → State → Prop} {lv : List (Nat × Value)} (F : Fx E p s m args meth co cc nL own ret) (hI : Iv E s H locs u) (hl : lv_has ls nL lv) (hM : CT l y bytes maxL ret' (Rm f k) As E u Qc) (hL : LkS own idx y bytes maxL ret' n) (hn : As.length = n) (hR : f + 1 ≤ R.frames ∧ 8 + (maxL + 11) + k ≤ R.locals) (hf : cells ≤ R.cells ∧ slots ≤ R.slots) (hst : st = As.reverse ++ rest) (hW : (rest.map fun v => v.category).sum ≤ 8) (hdg : decode cc pc = .ok (.invokestatic idx, 3)) :
    va_Run p l e R s m args below meth co H locs cells slots 0 0 (F0 m pc ls st) rest (Qc As.toArray) (eR E) := by
  obtain ⟨⟨hl1, h2, h3, h4, h5, h6⟩, h7⟩ := hL
  have ht := F.2.2.2.2.1
  have hp : PreS s H (va_Pc As (Pre E u)) As := ⟨Pre.blind, fun U hU hW => ⟨rfl, by rw [hU]; exact hI.1, F.2.2.2.2.2.1.step hI.2 hU hW⟩⟩
  rcases hl1 with h1 | ⟨host, h1⟩
  · exact va_runS ⟨F.1, F.2.1, F.2.2.1, F.2.2.2.1, ht⟩ hM ⟨callB_of n ht (gW_in h3) rfl rfl rfl (ht _ h2) (ht _ h1) ⟨h4, h5, h6⟩ hR, ht _ h7⟩ hp rfl hn hl.1 hst (lv_room hW) hdg hf
  · exact va_runSN ⟨F.1, F.2.1, F.2.2.1, F.2.2.2.1, ht⟩ hM ⟨va_cnB n ht (gW_in h3) rfl rfl rfl (F.2.2.2.2.2.1.2.1 _ h1) (ht _ h2) ⟨h4, h5, h6⟩ hR, ht _ h7, trivial⟩ hp rfl hn hl.1 hst (lv_room hW) hdg hf
theorem zI {S : Type} {post : Int32 → S → Prop} {emb : S → SS} {a : Array Value} (hI : Iv E s H locs u) (hr : va_Run p l e R s m args below meth co H locs cells slots 0 0 (F0 m pc ls st) rest (Q_i E post emb a) (eR E)) (kk : ∀ (r : Int32) (v : S) (H1 : Heap) (locs1 : List Loc), Iv E s H1 locs1 (emb v) → post r v → W p l e R s m args below meth co H1 locs1 cells slots Q (F0 m (pc + 3) ls (.int r :: rest))) : W p l e R s m args below meth co H locs cells slots Q (F0 m pc ls (st)) :=
  va_calli hr hI.2 (fun _ _ h => h) (fun _ h => h) (fun r v t H1 locs1 ht _ hp hB _ _ hS => kk r v H1 locs1 ⟨by rw [← ht]; exact hB, hS⟩ hp)
theorem zL {S : Type} {post : Int64 → S → Prop} {emb : S → SS} {a : Array Value} (hI : Iv E s H locs u) (hr : va_Run p l e R s m args below meth co H locs cells slots 0 0 (F0 m pc ls st) rest (Q_l E post emb a) (eR E)) (kk : ∀ (r : Int64) (v : S) (H1 : Heap) (locs1 : List Loc), Iv E s H1 locs1 (emb v) → post r v → W p l e R s m args below meth co H1 locs1 cells slots Q (F0 m (pc + 3) ls (.long r :: rest))) : W p l e R s m args below meth co H locs cells slots Q (F0 m pc ls (st)) :=
  va_calll hr hI.2 (fun _ _ h => h) (fun _ h => h) (fun r v t H1 locs1 ht _ hp hB _ _ hS => kk r v H1 locs1 ⟨by rw [← ht]; exact hB, hS⟩ hp)
theorem zV {S : Type} {post : S → Prop} {emb : S → SS} {a : Array Value} (hI : Iv E s H locs u) (hr : va_Run p l e R s m args below meth co H locs cells slots 0 0 (F0 m pc ls st) rest (Q_v E post emb a) (eR E)) (kk : ∀ (v : S) (H1 : Heap) (locs1 : List Loc), Iv E s H1 locs1 (emb v) → post v → W p l e R s m args below meth co H1 locs1 cells slots Q (F0 m (pc + 3) ls (rest))) : W p l e R s m args below meth co H locs cells slots Q (F0 m pc ls (st)) :=
  va_callv hr hI.2 (fun _ _ h => h) (fun _ h => h) (fun v t H1 locs1 ht _ hp hB _ _ hS => kk v H1 locs1 ⟨by rw [← ht]; exact hB, hS⟩ hp)
theorem zQ {S : Type} {post : Option Nat → S → Prop} {emb : S → SS} {a : Array Value} (hI : Iv E s H locs u) (hr : va_Run p l e R s m args below meth co H locs cells slots 0 0 (F0 m pc ls st) rest (Q_q E post emb a) (eR E)) (kk : ∀ (r : Option Nat) (v : S) (H1 : Heap) (locs1 : List Loc), Iv E s H1 locs1 (emb v) → post r v → W p l e R s m args below meth co H1 locs1 cells slots Q (F0 m (pc + 3) ls (va_rf r :: rest))) : W p l e R s m args below meth co H locs cells slots Q (F0 m pc ls (st)) :=
  va_callq hr hI.2 (fun _ _ h => h) (fun _ h => h) (fun r v t H1 locs1 ht _ hp hB _ _ hS => kk r v H1 locs1 ⟨by rw [← ht]; exact hB, hS⟩ hp)
theorem zc (F : Fx E p s m args meth co cc nL own ret) {idx : Nat} {v : Int32} (hK : Cond.constant own idx v ∈ gW) (hdg : decode cc pc = .ok (.ldc idx, 2)) (k : W p l e R s m args below meth co H locs cells slots Q (F0 m (pc + 2) ls (.int v :: rest))) : W p l e R s m args below meth co H locs cells slots Q (F0 m pc ls (rest)) := lv_ldc F.1 F.2.1 F.2.2.2.1 (F.2.2.2.2.1 _ hK) hdg k
theorem zcl (F : Fx E p s m args meth co cc nL own ret) {idx : Nat} {v : Int64} (hK : Cond.constantLong own idx v ∈ gW) (hdg : decode cc pc = .ok (.ldc2_w idx, 3)) (k : W p l e R s m args below meth co H locs cells slots Q (F0 m (pc + 3) ls (.long v :: rest))) : W p l e R s m args below meth co H locs cells slots Q (F0 m pc ls (rest)) := lv_ldc2 F.1 F.2.1 F.2.2.2.1 (F.2.2.2.2.1 _ hK) hdg k
theorem tI {x y : Int32} (h : x = y) (k : W p l e R s m args below meth co H locs cells slots Q (F0 m pc ls (.int y :: rest))) : W p l e R s m args below meth co H locs cells slots Q (F0 m pc ls (.int x :: rest)) := h ▸ k
theorem tL {x y : Int64} (h : x = y) (k : W p l e R s m args below meth co H locs cells slots Q (F0 m pc ls (.long y :: rest))) : W p l e R s m args below meth co H locs cells slots Q (F0 m pc ls (.long x :: rest)) := h ▸ k
theorem t2 {x y : Int32} {w : Value} (h : x = y) (k : W p l e R s m args below meth co H locs cells slots Q (F0 m pc ls (w :: .int y :: rest))) : W p l e R s m args below meth co H locs cells slots Q (F0 m pc ls (w :: .int x :: rest)) := h ▸ k
theorem j_max : Cond.static Lib.Math.max.name ∈ gW ∧ Cond.initialized "java/lang/Math" ∈ gW ∧ Cond.code Lib.Math.max.name Lib.Math.max.code 2 (some .int) ∈ gW := ⟨gW_t (by decide +kernel) (by decide +kernel), gW_t (by decide +kernel) (by decide +kernel), gW_t (by decide +kernel) (by decide +kernel)⟩
theorem zm_max (F : Fx E p s m args meth co cc nL own ret) {idx : Nat} {x y : Int32} {lv : List (Nat × Value)} (hl : lv_has ls nL lv) (hK : Cond.methodLink own idx Lib.Math.max.name ∈ gW) (hR : 1 ≤ R.frames ∧ (rest.map fun v => v.category).sum + 13 ≤ R.locals) (hf : cells ≤ R.cells ∧ slots ≤ R.slots) (hdg : decode cc pc = .ok (.invokestatic idx, 3)) (k : W p l e R s m args below meth co H locs cells slots Q (F0 m (pc + 3) ls (.int (if x < y then y else x) :: rest))) : W p l e R s m args below meth co H locs cells slots Q (F0 m pc ls (.int y :: .int x :: rest)) := va_mmax F.1 F.2.1 (F.2.2.1.trans hl.1.symm) F.2.2.2.1 (F.2.2.2.2.1 _ hK) (F.2.2.2.2.1 _ j_max.1) (F.2.2.2.2.1 _ j_max.2.1) (F.2.2.2.2.1 _ j_max.2.2) hR.1 hR.2 hf.1 hf.2 hdg k
theorem j_abs : Cond.static Lib.Math.abs.name ∈ gW ∧ Cond.initialized "java/lang/Math" ∈ gW ∧ Cond.code Lib.Math.abs.name Lib.Math.abs.code 1 (some .int) ∈ gW := ⟨gW_t (by decide +kernel) (by decide +kernel), gW_t (by decide +kernel) (by decide +kernel), gW_t (by decide +kernel) (by decide +kernel)⟩
theorem zm_abs (F : Fx E p s m args meth co cc nL own ret) {idx : Nat} {x : Int32} {lv : List (Nat × Value)} (hl : lv_has ls nL lv) (hK : Cond.methodLink own idx Lib.Math.abs.name ∈ gW) (hR : 1 ≤ R.frames ∧ (rest.map fun v => v.category).sum + 13 ≤ R.locals) (hf : cells ≤ R.cells ∧ slots ≤ R.slots) (hdg : decode cc pc = .ok (.invokestatic idx, 3)) (k : W p l e R s m args below meth co H locs cells slots Q (F0 m (pc + 3) ls (.int (if 0 ≤ x then x else 0 - x) :: rest))) : W p l e R s m args below meth co H locs cells slots Q (F0 m pc ls (.int x :: rest)) := va_mabs F.1 F.2.1 (F.2.2.1.trans hl.1.symm) F.2.2.2.1 (F.2.2.2.2.1 _ hK) (F.2.2.2.2.1 _ j_abs.1) (F.2.2.2.2.1 _ j_abs.2.1) (F.2.2.2.2.1 _ j_abs.2.2) hR.1 hR.2 hf.1 hf.2 hdg k
theorem gT0 (F : Fx E p s m args meth co cc nL own ret) (hI : Iv E s H locs u) {idx : Nat} (hL : Cond.fieldLink own idx "ShareStreams" "NUMBERS_OF_KIND" "[I" ∈ gW) (hdg : decode cc pc = .ok (.getstatic idx, 3)) (k : W p l e R s m args below meth co H locs cells slots Q (F0 m (pc + 3) ls (.ref (eS E 0) :: rest))) : W p l e R s m args below meth co H locs cells slots Q (F0 m pc ls (rest)) := va_gets (ref := "ShareStreams") F.1 F.2.1 F.2.2.2.2.2.1.2.2.1.1 hI.2 F.2.2.2.1 (F.2.2.2.2.1 _ hL) (fun _ h => h) hdg k
theorem tT0 (F : Fx E p s m args meth co cc nL own ret) (hI : Iv E s H locs u) {i : Nat} (hin : i < 7) (hdg : decode cc pc = .ok (.iaload, 1)) (k : W p l e R s m args below meth co H locs cells slots Q (F0 m (pc + 1) ls (.int (tblF 0 i) :: rest))) : W p l e R s m args below meth co H locs cells slots Q (F0 m pc ls (.int (nI i) :: .ref (eS E 0) :: rest)) := va_ti F.1 F.2.1 F.2.2.2.2.2.1.2.2.1.2 hI.2 (nI_arr hin (by decide)).1 (by rw [(nI_arr hin (by decide)).2]) hdg k
theorem nT0 (F : Fx E p s m args meth co cc nL own ret) (hI : Iv E s H locs u) (hdg : decode cc pc = .ok (.arraylength, 1)) (k : W p l e R s m args below meth co H locs cells slots Q (F0 m (pc + 1) ls (.int (nI 7) :: rest))) : W p l e R s m args below meth co H locs cells slots Q (F0 m pc ls (.ref (eS E 0) :: rest)) := va_tlen F.1 F.2.1 F.2.2.2.2.2.1.2.2.1.2 hI.2 rfl hdg k
theorem gT1 (F : Fx E p s m args meth co cc nL own ret) (hI : Iv E s H locs u) {idx : Nat} (hL : Cond.fieldLink own idx "ShareStreams" "LINES_OF_KIND" "[I" ∈ gW) (hdg : decode cc pc = .ok (.getstatic idx, 3)) (k : W p l e R s m args below meth co H locs cells slots Q (F0 m (pc + 3) ls (.ref (eS E 1) :: rest))) : W p l e R s m args below meth co H locs cells slots Q (F0 m pc ls (rest)) := va_gets (ref := "ShareStreams") F.1 F.2.1 F.2.2.2.2.2.1.2.2.2.1.1 hI.2 F.2.2.2.1 (F.2.2.2.2.1 _ hL) (fun _ h => h) hdg k
theorem tT1 (F : Fx E p s m args meth co cc nL own ret) (hI : Iv E s H locs u) {i : Nat} (hin : i < 7) (hdg : decode cc pc = .ok (.iaload, 1)) (k : W p l e R s m args below meth co H locs cells slots Q (F0 m (pc + 1) ls (.int (tblF 1 i) :: rest))) : W p l e R s m args below meth co H locs cells slots Q (F0 m pc ls (.int (nI i) :: .ref (eS E 1) :: rest)) := va_ti F.1 F.2.1 F.2.2.2.2.2.1.2.2.2.1.2 hI.2 (nI_arr hin (by decide)).1 (by rw [(nI_arr hin (by decide)).2]) hdg k
theorem nT1 (F : Fx E p s m args meth co cc nL own ret) (hI : Iv E s H locs u) (hdg : decode cc pc = .ok (.arraylength, 1)) (k : W p l e R s m args below meth co H locs cells slots Q (F0 m (pc + 1) ls (.int (nI 7) :: rest))) : W p l e R s m args below meth co H locs cells slots Q (F0 m pc ls (.ref (eS E 1) :: rest)) := va_tlen F.1 F.2.1 F.2.2.2.2.2.1.2.2.2.1.2 hI.2 rfl hdg k
end LKS
