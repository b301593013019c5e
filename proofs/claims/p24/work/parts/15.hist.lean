/-! RepealedLaws.History -/
def hH (hv : Nat → CV) (ho hk : Int32) (v : CV) : List ZC := [.inr (.inl (1, [.ref 1, .int ho, .int hk])), .inr (.inr (6, fun j => some (2 + 10 * j))), .inr (.inl (0, [.ref 3, .ref 4, .ref 5, .ref 6, .ref 7, .ref 8, .ref 9, .ref 10, .ref 11, .int ((hv 0) 9 0), .int ((hv 0) 10 0), .int ((hv 0) 11 0)])), .inl (0, 3, (hv 0) 0), .inl (0, 30, (hv 0) 1), .inl (0, 80, (hv 0) 2), .inl (0, 80, (hv 0) 3), .inl (0, 80, (hv 0) 4), .inl (0, 80, (hv 0) 5), .inl (0, 80, (hv 0) 6), .inl (0, 80, (hv 0) 7), .inl (0, 80, (hv 0) 8), .inr (.inl (0, [.ref 13, .ref 14, .ref 15, .ref 16, .ref 17, .ref 18, .ref 19, .ref 20, .ref 21, .int ((hv 1) 9 0), .int ((hv 1) 10 0), .int ((hv 1) 11 0)])), .inl (0, 3, (hv 1) 0), .inl (0, 30, (hv 1) 1), .inl (0, 80, (hv 1) 2), .inl (0, 80, (hv 1) 3), .inl (0, 80, (hv 1) 4), .inl (0, 80, (hv 1) 5), .inl (0, 80, (hv 1) 6), .inl (0, 80, (hv 1) 7), .inl (0, 80, (hv 1) 8), .inr (.inl (0, [.ref 23, .ref 24, .ref 25, .ref 26, .ref 27, .ref 28, .ref 29, .ref 30, .ref 31, .int ((hv 2) 9 0), .int ((hv 2) 10 0), .int ((hv 2) 11 0)])), .inl (0, 3, (hv 2) 0), .inl (0, 30, (hv 2) 1), .inl (0, 80, (hv 2) 2), .inl (0, 80, (hv 2) 3), .inl (0, 80, (hv 2) 4), .inl (0, 80, (hv 2) 5), .inl (0, 80, (hv 2) 6), .inl (0, 80, (hv 2) 7), .inl (0, 80, (hv 2) 8), .inr (.inl (0, [.ref 33, .ref 34, .ref 35, .ref 36, .ref 37, .ref 38, .ref 39, .ref 40, .ref 41, .int ((hv 3) 9 0), .int ((hv 3) 10 0), .int ((hv 3) 11 0)])), .inl (0, 3, (hv 3) 0), .inl (0, 30, (hv 3) 1), .inl (0, 80, (hv 3) 2), .inl (0, 80, (hv 3) 3), .inl (0, 80, (hv 3) 4), .inl (0, 80, (hv 3) 5), .inl (0, 80, (hv 3) 6), .inl (0, 80, (hv 3) 7), .inl (0, 80, (hv 3) 8), .inr (.inl (0, [.ref 43, .ref 44, .ref 45, .ref 46, .ref 47, .ref 48, .ref 49, .ref 50, .ref 51, .int ((hv 4) 9 0), .int ((hv 4) 10 0), .int ((hv 4) 11 0)])), .inl (0, 3, (hv 4) 0), .inl (0, 30, (hv 4) 1), .inl (0, 80, (hv 4) 2), .inl (0, 80, (hv 4) 3), .inl (0, 80, (hv 4) 4), .inl (0, 80, (hv 4) 5), .inl (0, 80, (hv 4) 6), .inl (0, 80, (hv 4) 7), .inl (0, 80, (hv 4) 8), .inr (.inl (0, [.ref 53, .ref 54, .ref 55, .ref 56, .ref 57, .ref 58, .ref 59, .ref 60, .ref 61, .int ((hv 5) 9 0), .int ((hv 5) 10 0), .int ((hv 5) 11 0)])), .inl (0, 3, (hv 5) 0), .inl (0, 30, (hv 5) 1), .inl (0, 80, (hv 5) 2), .inl (0, 80, (hv 5) 3), .inl (0, 80, (hv 5) 4), .inl (0, 80, (hv 5) 5), .inl (0, 80, (hv 5) 6), .inl (0, 80, (hv 5) 7), .inl (0, 80, (hv 5) 8), .inr (.inl (0, [.ref 63, .ref 64, .ref 65, .ref 66, .ref 67, .ref 68, .ref 69, .ref 70, .ref 71, .int (v 9 0), .int (v 10 0), .int (v 11 0)])), .inl (0, 3, v 0), .inl (0, 30, v 1), .inl (0, 80, v 2), .inl (0, 80, v 3), .inl (0, 80, v 4), .inl (0, 80, v 5), .inl (0, 80, v 6), .inl (0, 80, v 7), .inl (0, 80, v 8)]
def hup (hv : Nat → CV) (p : Nat) (w : CV) : Nat → CV := fun j => match Nat.beq j p with
  | true => w
  | false => hv j
theorem z6 {P : Nat → Prop} (h0 : P 0) (h1 : P 1) (h2 : P 2) (h3 : P 3) (h4 : P 4) (h5 : P 5) : ∀ i, i < 6 → P i := by
  intro i hi
  match i, hi with
  | 0, _ => exact h0
  | 1, _ => exact h1
  | 2, _ => exact h2
  | 3, _ => exact h3
  | 4, _ => exact h4
  | 5, _ => exact h5
  | n + 6, h => exact absurd h (by omega)
set_option maxHeartbeats 2000000 in
set_option maxRecDepth 20000 in
theorem mX1_placeOf (hv : Nat → CV) (hk : Int32) (v : CV) (o b : Nat) (ho : o < 6) (hb : b < 7) : ZM yX1_placeOf cX1_placeOf 2 (some .int) 0 0 [.ref 0, .int (nI b)] (hH hv (nI o) hk v) (some (.int (nI ((o + b) % 6)))) (hH hv (nI o) hk v) := by
  refine zm_of 1 qX1_placeOf rfl rfl kX1_placeOf rfl (Nat.le_of_ble_eq_true rfl) (fun C hC0 => ?_)
  refine zgo hC0 0 7 rfl ?_
  refine And.intro (by decide) ?_
  exact zret_i (by rw [show (nI o + nI b) - (nI o + nI b) / zlit 6 * zlit 6 = (nI o + nI b) - (nI o + nI b) / nI 6 * nI 6 from rfl, nI_add, pk_rem (by omega) (by decide) (by decide)])
set_option maxHeartbeats 2000000 in
theorem zR_0 (hv : Nat → CV) (ho hk : Int32) (v : CV) : ZSB [2, 3, 4, 5, 6, 7, 8, 9, 10, 11, 62, 63, 64, 65, 66, 67, 68, 69, 70, 71] (hH hv ho hk v) (hH (hup hv 0 v) ho hk v) (hC (hv 0) ++ (hC v).map (zrn sgO)) (hC v ++ (hC v).map (zrn sgO)) := ⟨⟨rfl, rfl, rfl, rfl, rfl, rfl, rfl, rfl, rfl, rfl, rfl, rfl, rfl, rfl, rfl, rfl, rfl, rfl, rfl, rfl, trivial⟩, ⟨rfl, rfl, rfl, rfl, rfl, rfl, rfl, rfl, rfl, rfl, rfl, rfl, rfl, rfl, rfl, rfl, rfl, rfl, rfl, rfl, trivial⟩, ⟨rfl, rfl, trivial, trivial, trivial, trivial, trivial, trivial, trivial, trivial, trivial, trivial, rfl, rfl, rfl, rfl, rfl, rfl, rfl, rfl, rfl, rfl, rfl, rfl, rfl, rfl, rfl, rfl, rfl, rfl, rfl, rfl, rfl, rfl, rfl, rfl, rfl, rfl, rfl, rfl, rfl, rfl, rfl, rfl, rfl, rfl, rfl, rfl, rfl, rfl, rfl, rfl, rfl, rfl, rfl, rfl, rfl, rfl, rfl, rfl, rfl, rfl, trivial, trivial, trivial, trivial, trivial, trivial, trivial, trivial, trivial, trivial, trivial⟩⟩
set_option maxHeartbeats 2000000 in
theorem zT_0 (hv : Nat → CV) (ho hk : Int32) (v : CV) : ZSB [62, 63, 64, 65, 66, 67, 68, 69, 70, 71, 2, 3, 4, 5, 6, 7, 8, 9, 10, 11] (hH hv ho hk v) (hH hv ho hk (hv 0)) (hC v ++ (hC (hv 0)).map (zrn sgO)) (hC (hv 0) ++ (hC (hv 0)).map (zrn sgO)) := ⟨⟨rfl, rfl, rfl, rfl, rfl, rfl, rfl, rfl, rfl, rfl, rfl, rfl, rfl, rfl, rfl, rfl, rfl, rfl, rfl, rfl, trivial⟩, ⟨rfl, rfl, rfl, rfl, rfl, rfl, rfl, rfl, rfl, rfl, rfl, rfl, rfl, rfl, rfl, rfl, rfl, rfl, rfl, rfl, trivial⟩, ⟨rfl, rfl, trivial, trivial, trivial, trivial, trivial, trivial, trivial, trivial, trivial, trivial, rfl, rfl, rfl, rfl, rfl, rfl, rfl, rfl, rfl, rfl, rfl, rfl, rfl, rfl, rfl, rfl, rfl, rfl, rfl, rfl, rfl, rfl, rfl, rfl, rfl, rfl, rfl, rfl, rfl, rfl, rfl, rfl, rfl, rfl, rfl, rfl, rfl, rfl, rfl, rfl, rfl, rfl, rfl, rfl, rfl, rfl, rfl, rfl, rfl, rfl, trivial, trivial, trivial, trivial, trivial, trivial, trivial, trivial, trivial, trivial, trivial⟩⟩
set_option maxHeartbeats 2000000 in
theorem zR_1 (hv : Nat → CV) (ho hk : Int32) (v : CV) : ZSB [12, 13, 14, 15, 16, 17, 18, 19, 20, 21, 62, 63, 64, 65, 66, 67, 68, 69, 70, 71] (hH hv ho hk v) (hH (hup hv 1 v) ho hk v) (hC (hv 1) ++ (hC v).map (zrn sgO)) (hC v ++ (hC v).map (zrn sgO)) := ⟨⟨rfl, rfl, rfl, rfl, rfl, rfl, rfl, rfl, rfl, rfl, rfl, rfl, rfl, rfl, rfl, rfl, rfl, rfl, rfl, rfl, trivial⟩, ⟨rfl, rfl, rfl, rfl, rfl, rfl, rfl, rfl, rfl, rfl, rfl, rfl, rfl, rfl, rfl, rfl, rfl, rfl, rfl, rfl, trivial⟩, ⟨rfl, rfl, rfl, rfl, rfl, rfl, rfl, rfl, rfl, rfl, rfl, rfl, trivial, trivial, trivial, trivial, trivial, trivial, trivial, trivial, trivial, trivial, rfl, rfl, rfl, rfl, rfl, rfl, rfl, rfl, rfl, rfl, rfl, rfl, rfl, rfl, rfl, rfl, rfl, rfl, rfl, rfl, rfl, rfl, rfl, rfl, rfl, rfl, rfl, rfl, rfl, rfl, rfl, rfl, rfl, rfl, rfl, rfl, rfl, rfl, rfl, rfl, trivial, trivial, trivial, trivial, trivial, trivial, trivial, trivial, trivial, trivial, trivial⟩⟩
set_option maxHeartbeats 2000000 in
theorem zT_1 (hv : Nat → CV) (ho hk : Int32) (v : CV) : ZSB [62, 63, 64, 65, 66, 67, 68, 69, 70, 71, 12, 13, 14, 15, 16, 17, 18, 19, 20, 21] (hH hv ho hk v) (hH hv ho hk (hv 1)) (hC v ++ (hC (hv 1)).map (zrn sgO)) (hC (hv 1) ++ (hC (hv 1)).map (zrn sgO)) := ⟨⟨rfl, rfl, rfl, rfl, rfl, rfl, rfl, rfl, rfl, rfl, rfl, rfl, rfl, rfl, rfl, rfl, rfl, rfl, rfl, rfl, trivial⟩, ⟨rfl, rfl, rfl, rfl, rfl, rfl, rfl, rfl, rfl, rfl, rfl, rfl, rfl, rfl, rfl, rfl, rfl, rfl, rfl, rfl, trivial⟩, ⟨rfl, rfl, rfl, rfl, rfl, rfl, rfl, rfl, rfl, rfl, rfl, rfl, trivial, trivial, trivial, trivial, trivial, trivial, trivial, trivial, trivial, trivial, rfl, rfl, rfl, rfl, rfl, rfl, rfl, rfl, rfl, rfl, rfl, rfl, rfl, rfl, rfl, rfl, rfl, rfl, rfl, rfl, rfl, rfl, rfl, rfl, rfl, rfl, rfl, rfl, rfl, rfl, rfl, rfl, rfl, rfl, rfl, rfl, rfl, rfl, rfl, rfl, trivial, trivial, trivial, trivial, trivial, trivial, trivial, trivial, trivial, trivial, trivial⟩⟩
set_option maxHeartbeats 2000000 in
theorem zR_2 (hv : Nat → CV) (ho hk : Int32) (v : CV) : ZSB [22, 23, 24, 25, 26, 27, 28, 29, 30, 31, 62, 63, 64, 65, 66, 67, 68, 69, 70, 71] (hH hv ho hk v) (hH (hup hv 2 v) ho hk v) (hC (hv 2) ++ (hC v).map (zrn sgO)) (hC v ++ (hC v).map (zrn sgO)) := ⟨⟨rfl, rfl, rfl, rfl, rfl, rfl, rfl, rfl, rfl, rfl, rfl, rfl, rfl, rfl, rfl, rfl, rfl, rfl, rfl, rfl, trivial⟩, ⟨rfl, rfl, rfl, rfl, rfl, rfl, rfl, rfl, rfl, rfl, rfl, rfl, rfl, rfl, rfl, rfl, rfl, rfl, rfl, rfl, trivial⟩, ⟨rfl, rfl, rfl, rfl, rfl, rfl, rfl, rfl, rfl, rfl, rfl, rfl, rfl, rfl, rfl, rfl, rfl, rfl, rfl, rfl, rfl, rfl, trivial, trivial, trivial, trivial, trivial, trivial, trivial, trivial, trivial, trivial, rfl, rfl, rfl, rfl, rfl, rfl, rfl, rfl, rfl, rfl, rfl, rfl, rfl, rfl, rfl, rfl, rfl, rfl, rfl, rfl, rfl, rfl, rfl, rfl, rfl, rfl, rfl, rfl, rfl, rfl, trivial, trivial, trivial, trivial, trivial, trivial, trivial, trivial, trivial, trivial, trivial⟩⟩
set_option maxHeartbeats 2000000 in
theorem zT_2 (hv : Nat → CV) (ho hk : Int32) (v : CV) : ZSB [62, 63, 64, 65, 66, 67, 68, 69, 70, 71, 22, 23, 24, 25, 26, 27, 28, 29, 30, 31] (hH hv ho hk v) (hH hv ho hk (hv 2)) (hC v ++ (hC (hv 2)).map (zrn sgO)) (hC (hv 2) ++ (hC (hv 2)).map (zrn sgO)) := ⟨⟨rfl, rfl, rfl, rfl, rfl, rfl, rfl, rfl, rfl, rfl, rfl, rfl, rfl, rfl, rfl, rfl, rfl, rfl, rfl, rfl, trivial⟩, ⟨rfl, rfl, rfl, rfl, rfl, rfl, rfl, rfl, rfl, rfl, rfl, rfl, rfl, rfl, rfl, rfl, rfl, rfl, rfl, rfl, trivial⟩, ⟨rfl, rfl, rfl, rfl, rfl, rfl, rfl, rfl, rfl, rfl, rfl, rfl, rfl, rfl, rfl, rfl, rfl, rfl, rfl, rfl, rfl, rfl, trivial, trivial, trivial, trivial, trivial, trivial, trivial, trivial, trivial, trivial, rfl, rfl, rfl, rfl, rfl, rfl, rfl, rfl, rfl, rfl, rfl, rfl, rfl, rfl, rfl, rfl, rfl, rfl, rfl, rfl, rfl, rfl, rfl, rfl, rfl, rfl, rfl, rfl, rfl, rfl, trivial, trivial, trivial, trivial, trivial, trivial, trivial, trivial, trivial, trivial, trivial⟩⟩
set_option maxHeartbeats 2000000 in
theorem zR_3 (hv : Nat → CV) (ho hk : Int32) (v : CV) : ZSB [32, 33, 34, 35, 36, 37, 38, 39, 40, 41, 62, 63, 64, 65, 66, 67, 68, 69, 70, 71] (hH hv ho hk v) (hH (hup hv 3 v) ho hk v) (hC (hv 3) ++ (hC v).map (zrn sgO)) (hC v ++ (hC v).map (zrn sgO)) := ⟨⟨rfl, rfl, rfl, rfl, rfl, rfl, rfl, rfl, rfl, rfl, rfl, rfl, rfl, rfl, rfl, rfl, rfl, rfl, rfl, rfl, trivial⟩, ⟨rfl, rfl, rfl, rfl, rfl, rfl, rfl, rfl, rfl, rfl, rfl, rfl, rfl, rfl, rfl, rfl, rfl, rfl, rfl, rfl, trivial⟩, ⟨rfl, rfl, rfl, rfl, rfl, rfl, rfl, rfl, rfl, rfl, rfl, rfl, rfl, rfl, rfl, rfl, rfl, rfl, rfl, rfl, rfl, rfl, rfl, rfl, rfl, rfl, rfl, rfl, rfl, rfl, rfl, rfl, trivial, trivial, trivial, trivial, trivial, trivial, trivial, trivial, trivial, trivial, rfl, rfl, rfl, rfl, rfl, rfl, rfl, rfl, rfl, rfl, rfl, rfl, rfl, rfl, rfl, rfl, rfl, rfl, rfl, rfl, trivial, trivial, trivial, trivial, trivial, trivial, trivial, trivial, trivial, trivial, trivial⟩⟩
set_option maxHeartbeats 2000000 in
theorem zT_3 (hv : Nat → CV) (ho hk : Int32) (v : CV) : ZSB [62, 63, 64, 65, 66, 67, 68, 69, 70, 71, 32, 33, 34, 35, 36, 37, 38, 39, 40, 41] (hH hv ho hk v) (hH hv ho hk (hv 3)) (hC v ++ (hC (hv 3)).map (zrn sgO)) (hC (hv 3) ++ (hC (hv 3)).map (zrn sgO)) := ⟨⟨rfl, rfl, rfl, rfl, rfl, rfl, rfl, rfl, rfl, rfl, rfl, rfl, rfl, rfl, rfl, rfl, rfl, rfl, rfl, rfl, trivial⟩, ⟨rfl, rfl, rfl, rfl, rfl, rfl, rfl, rfl, rfl, rfl, rfl, rfl, rfl, rfl, rfl, rfl, rfl, rfl, rfl, rfl, trivial⟩, ⟨rfl, rfl, rfl, rfl, rfl, rfl, rfl, rfl, rfl, rfl, rfl, rfl, rfl, rfl, rfl, rfl, rfl, rfl, rfl, rfl, rfl, rfl, rfl, rfl, rfl, rfl, rfl, rfl, rfl, rfl, rfl, rfl, trivial, trivial, trivial, trivial, trivial, trivial, trivial, trivial, trivial, trivial, rfl, rfl, rfl, rfl, rfl, rfl, rfl, rfl, rfl, rfl, rfl, rfl, rfl, rfl, rfl, rfl, rfl, rfl, rfl, rfl, trivial, trivial, trivial, trivial, trivial, trivial, trivial, trivial, trivial, trivial, trivial⟩⟩
set_option maxHeartbeats 2000000 in
theorem zR_4 (hv : Nat → CV) (ho hk : Int32) (v : CV) : ZSB [42, 43, 44, 45, 46, 47, 48, 49, 50, 51, 62, 63, 64, 65, 66, 67, 68, 69, 70, 71] (hH hv ho hk v) (hH (hup hv 4 v) ho hk v) (hC (hv 4) ++ (hC v).map (zrn sgO)) (hC v ++ (hC v).map (zrn sgO)) := ⟨⟨rfl, rfl, rfl, rfl, rfl, rfl, rfl, rfl, rfl, rfl, rfl, rfl, rfl, rfl, rfl, rfl, rfl, rfl, rfl, rfl, trivial⟩, ⟨rfl, rfl, rfl, rfl, rfl, rfl, rfl, rfl, rfl, rfl, rfl, rfl, rfl, rfl, rfl, rfl, rfl, rfl, rfl, rfl, trivial⟩, ⟨rfl, rfl, rfl, rfl, rfl, rfl, rfl, rfl, rfl, rfl, rfl, rfl, rfl, rfl, rfl, rfl, rfl, rfl, rfl, rfl, rfl, rfl, rfl, rfl, rfl, rfl, rfl, rfl, rfl, rfl, rfl, rfl, rfl, rfl, rfl, rfl, rfl, rfl, rfl, rfl, rfl, rfl, trivial, trivial, trivial, trivial, trivial, trivial, trivial, trivial, trivial, trivial, rfl, rfl, rfl, rfl, rfl, rfl, rfl, rfl, rfl, rfl, trivial, trivial, trivial, trivial, trivial, trivial, trivial, trivial, trivial, trivial, trivial⟩⟩
set_option maxHeartbeats 2000000 in
theorem zT_4 (hv : Nat → CV) (ho hk : Int32) (v : CV) : ZSB [62, 63, 64, 65, 66, 67, 68, 69, 70, 71, 42, 43, 44, 45, 46, 47, 48, 49, 50, 51] (hH hv ho hk v) (hH hv ho hk (hv 4)) (hC v ++ (hC (hv 4)).map (zrn sgO)) (hC (hv 4) ++ (hC (hv 4)).map (zrn sgO)) := ⟨⟨rfl, rfl, rfl, rfl, rfl, rfl, rfl, rfl, rfl, rfl, rfl, rfl, rfl, rfl, rfl, rfl, rfl, rfl, rfl, rfl, trivial⟩, ⟨rfl, rfl, rfl, rfl, rfl, rfl, rfl, rfl, rfl, rfl, rfl, rfl, rfl, rfl, rfl, rfl, rfl, rfl, rfl, rfl, trivial⟩, ⟨rfl, rfl, rfl, rfl, rfl, rfl, rfl, rfl, rfl, rfl, rfl, rfl, rfl, rfl, rfl, rfl, rfl, rfl, rfl, rfl, rfl, rfl, rfl, rfl, rfl, rfl, rfl, rfl, rfl, rfl, rfl, rfl, rfl, rfl, rfl, rfl, rfl, rfl, rfl, rfl, rfl, rfl, trivial, trivial, trivial, trivial, trivial, trivial, trivial, trivial, trivial, trivial, rfl, rfl, rfl, rfl, rfl, rfl, rfl, rfl, rfl, rfl, trivial, trivial, trivial, trivial, trivial, trivial, trivial, trivial, trivial, trivial, trivial⟩⟩
set_option maxHeartbeats 2000000 in
theorem zR_5 (hv : Nat → CV) (ho hk : Int32) (v : CV) : ZSB [52, 53, 54, 55, 56, 57, 58, 59, 60, 61, 62, 63, 64, 65, 66, 67, 68, 69, 70, 71] (hH hv ho hk v) (hH (hup hv 5 v) ho hk v) (hC (hv 5) ++ (hC v).map (zrn sgO)) (hC v ++ (hC v).map (zrn sgO)) := ⟨⟨rfl, rfl, rfl, rfl, rfl, rfl, rfl, rfl, rfl, rfl, rfl, rfl, rfl, rfl, rfl, rfl, rfl, rfl, rfl, rfl, trivial⟩, ⟨rfl, rfl, rfl, rfl, rfl, rfl, rfl, rfl, rfl, rfl, rfl, rfl, rfl, rfl, rfl, rfl, rfl, rfl, rfl, rfl, trivial⟩, ⟨rfl, rfl, rfl, rfl, rfl, rfl, rfl, rfl, rfl, rfl, rfl, rfl, rfl, rfl, rfl, rfl, rfl, rfl, rfl, rfl, rfl, rfl, rfl, rfl, rfl, rfl, rfl, rfl, rfl, rfl, rfl, rfl, rfl, rfl, rfl, rfl, rfl, rfl, rfl, rfl, rfl, rfl, rfl, rfl, rfl, rfl, rfl, rfl, rfl, rfl, rfl, rfl, trivial, trivial, trivial, trivial, trivial, trivial, trivial, trivial, trivial, trivial, trivial, trivial, trivial, trivial, trivial, trivial, trivial, trivial, trivial, trivial, trivial⟩⟩
set_option maxHeartbeats 2000000 in
theorem zT_5 (hv : Nat → CV) (ho hk : Int32) (v : CV) : ZSB [62, 63, 64, 65, 66, 67, 68, 69, 70, 71, 52, 53, 54, 55, 56, 57, 58, 59, 60, 61] (hH hv ho hk v) (hH hv ho hk (hv 5)) (hC v ++ (hC (hv 5)).map (zrn sgO)) (hC (hv 5) ++ (hC (hv 5)).map (zrn sgO)) := ⟨⟨rfl, rfl, rfl, rfl, rfl, rfl, rfl, rfl, rfl, rfl, rfl, rfl, rfl, rfl, rfl, rfl, rfl, rfl, rfl, rfl, trivial⟩, ⟨rfl, rfl, rfl, rfl, rfl, rfl, rfl, rfl, rfl, rfl, rfl, rfl, rfl, rfl, rfl, rfl, rfl, rfl, rfl, rfl, trivial⟩, ⟨rfl, rfl, rfl, rfl, rfl, rfl, rfl, rfl, rfl, rfl, rfl, rfl, rfl, rfl, rfl, rfl, rfl, rfl, rfl, rfl, rfl, rfl, rfl, rfl, rfl, rfl, rfl, rfl, rfl, rfl, rfl, rfl, rfl, rfl, rfl, rfl, rfl, rfl, rfl, rfl, rfl, rfl, rfl, rfl, rfl, rfl, rfl, rfl, rfl, rfl, rfl, rfl, trivial, trivial, trivial, trivial, trivial, trivial, trivial, trivial, trivial, trivial, trivial, trivial, trivial, trivial, trivial, trivial, trivial, trivial, trivial, trivial, trivial⟩⟩
set_option maxHeartbeats 2000000 in
set_option maxRecDepth 20000 in
theorem mX1_remember (hv : Nat → CV) (v : CV) (o k : Nat) (ho : o < 6) (hk : k ≤ 6) : ZM yX1_remember cX1_remember 2 none 2 69 [.ref 0, .ref 62] (hH hv (nI o) (nI k) v) none (hH (hup hv ((o + k) % 6) v) (nI (if k < 6 then o else (o + 1) % 6)) (nI (if k < 6 then k + 1 else 6)) v) := by
  refine zm_of 1 qX1_remember rfl rfl kX1_remember rfl (Nat.le_of_ble_eq_true rfl) (fun C hC0 => ?_)
  have fin : C 17 [some (.ref 0), some (.ref 62)] [] (hH (hup hv ((o + k) % 6) v) (nI o) (nI k) v) := by
    refine zgo hC0 9 4 rfl ?_
    refine And.intro (fun (c : nI 6 ≤ nI k) => ?_) (fun (c : ¬ nI 6 ≤ nI k) => ?_)
    · have hk6 : ¬ k < 6 := fun q => absurd c (nI_ge q (by decide))
      refine zgo hC0 20 3 rfl ?_
      refine zcallV hC0 (mX1_placeOf (hup hv ((o + k) % 6) v) (nI k) v o 1 ho (by decide)) vX1_placeOf lk1_22 (by decide +kernel : decode cX1_remember 42 = .ok (.invokevirtual 22, 3)) rfl rfl rfl (Nat.le_of_ble_eq_true rfl) (Nat.le_of_ble_eq_true rfl) (Nat.le_of_ble_eq_true rfl) ?_
      refine zgo hC0 24 2 rfl ?_
      have e : k = 6 := by omega
      subst e
      exact ⟨rfl, rfl⟩
    · have hk6 : k < 6 := by
        rcases Nat.lt_or_ge k 6 with q | q
        · exact q
        · exact absurd (nI_le q (by omega)) c
      refine zgo hC0 13 7 rfl ?_
      refine zgo hC0 25 1 rfl ?_
      refine ⟨rfl, ?_⟩
      rw [if_pos hk6, if_pos hk6, ← nI_add]
      rfl
  refine zgo hC0 0 5 rfl ?_
  refine zcallV hC0 (mX1_placeOf hv (nI k) v o k ho (by omega)) vX1_placeOf lk1_22 (by decide +kernel : decode cX1_remember 9 = .ok (.invokevirtual 22, 3)) rfl rfl rfl (Nat.le_of_ble_eq_true rfl) (Nat.le_of_ble_eq_true rfl) (Nat.le_of_ble_eq_true rfl) ?_
  have e : (nI ((o + k) % 6)).toNatClampNeg = (o + k) % 6 := nI_clamp (by omega)
  have hp : (o + k) % 6 < 6 := by omega
  refine zgo hC0 6 2 rfl ?_
  refine And.intro (vp_in_nI (n := (o + k) % 6) (N := 6) hp (by decide)) ?_
  show C 14 [some (.ref 0), some (.ref 62)] [.ref 62, .ref (2 + 10 * (nI ((o + k) % 6)).toNatClampNeg)] (hH hv (nI o) (nI k) v)
  rw [e]
  revert fin
  generalize (o + k) % 6 = p at hp
  revert p
  refine z6 ?_ ?_ ?_ ?_ ?_ ?_
  · intro fin
    refine zcallVb hC0 (mX0_become (hv 0) v) (zR_0 hv (nI o) (nI k) v) rfl (Nat.le_of_ble_eq_true rfl) vX0_become lk1_26 (by decide +kernel : decode cX1_remember 14 = .ok (.invokevirtual 26, 3)) rfl rfl rfl (Nat.le_of_ble_eq_true rfl) (Nat.le_of_ble_eq_true rfl) (Nat.le_of_ble_eq_true rfl) ?_
    exact fin
  · intro fin
    refine zcallVb hC0 (mX0_become (hv 1) v) (zR_1 hv (nI o) (nI k) v) rfl (Nat.le_of_ble_eq_true rfl) vX0_become lk1_26 (by decide +kernel : decode cX1_remember 14 = .ok (.invokevirtual 26, 3)) rfl rfl rfl (Nat.le_of_ble_eq_true rfl) (Nat.le_of_ble_eq_true rfl) (Nat.le_of_ble_eq_true rfl) ?_
    exact fin
  · intro fin
    refine zcallVb hC0 (mX0_become (hv 2) v) (zR_2 hv (nI o) (nI k) v) rfl (Nat.le_of_ble_eq_true rfl) vX0_become lk1_26 (by decide +kernel : decode cX1_remember 14 = .ok (.invokevirtual 26, 3)) rfl rfl rfl (Nat.le_of_ble_eq_true rfl) (Nat.le_of_ble_eq_true rfl) (Nat.le_of_ble_eq_true rfl) ?_
    exact fin
  · intro fin
    refine zcallVb hC0 (mX0_become (hv 3) v) (zR_3 hv (nI o) (nI k) v) rfl (Nat.le_of_ble_eq_true rfl) vX0_become lk1_26 (by decide +kernel : decode cX1_remember 14 = .ok (.invokevirtual 26, 3)) rfl rfl rfl (Nat.le_of_ble_eq_true rfl) (Nat.le_of_ble_eq_true rfl) (Nat.le_of_ble_eq_true rfl) ?_
    exact fin
  · intro fin
    refine zcallVb hC0 (mX0_become (hv 4) v) (zR_4 hv (nI o) (nI k) v) rfl (Nat.le_of_ble_eq_true rfl) vX0_become lk1_26 (by decide +kernel : decode cX1_remember 14 = .ok (.invokevirtual 26, 3)) rfl rfl rfl (Nat.le_of_ble_eq_true rfl) (Nat.le_of_ble_eq_true rfl) (Nat.le_of_ble_eq_true rfl) ?_
    exact fin
  · intro fin
    refine zcallVb hC0 (mX0_become (hv 5) v) (zR_5 hv (nI o) (nI k) v) rfl (Nat.le_of_ble_eq_true rfl) vX0_become lk1_26 (by decide +kernel : decode cX1_remember 14 = .ok (.invokevirtual 26, 3)) rfl rfl rfl (Nat.le_of_ble_eq_true rfl) (Nat.le_of_ble_eq_true rfl) (Nat.le_of_ble_eq_true rfl) ?_
    exact fin
set_option maxHeartbeats 2000000 in
set_option maxRecDepth 20000 in
theorem mX1_takeBack (hv : Nat → CV) (v : CV) (o k : Nat) (ho : o < 6) (hk : k < 6) : ZM yX1_takeBack cX1_takeBack 2 none 2 69 [.ref 0, .ref 62] (hH hv (nI o) (nI (k + 1)) v) none (hH hv (nI o) (nI k) (hv ((o + k) % 6))) := by
  refine zm_of 1 qX1_takeBack rfl rfl kX1_takeBack rfl (Nat.le_of_ble_eq_true rfl) (fun C hC0 => ?_)
  have e : (nI ((o + k) % 6)).toNatClampNeg = (o + k) % 6 := nI_clamp (by omega)
  have hp : (o + k) % 6 < 6 := by omega
  refine zgo hC0 0 3 rfl ?_
  refine And.intro (fun c => absurd c (nI_nle (by omega) (by omega))) (fun _ => ?_)
  refine zgo hC0 3 12 rfl ?_
  show C 27 [some (.ref 0), some (.ref 62)] [.int (nI (k + 1) - nI 1), .ref 0, .ref 1, .ref 62] (hH hv (nI o) (nI (k + 1) - nI 1) v)
  rw [show nI (k + 1) - nI 1 = nI k from nI_pred k]
  refine zcallV hC0 (mX1_placeOf hv (nI k) v o k ho (by omega)) vX1_placeOf lk1_22 (by decide +kernel : decode cX1_takeBack 27 = .ok (.invokevirtual 22, 3)) rfl rfl rfl (Nat.le_of_ble_eq_true rfl) (Nat.le_of_ble_eq_true rfl) (Nat.le_of_ble_eq_true rfl) ?_
  refine zgo hC0 16 1 rfl ?_
  refine And.intro (vp_in_nI (n := (o + k) % 6) (N := 6) hp (by decide)) ?_
  show C 31 [some (.ref 0), some (.ref 62)] [.ref (2 + 10 * (nI ((o + k) % 6)).toNatClampNeg), .ref 62] (hH hv (nI o) (nI k) v)
  rw [e]
  have fin : C 34 [some (.ref 0), some (.ref 62)] [] (hH hv (nI o) (nI k) (hv ((o + k) % 6))) := by
    refine zgo hC0 18 1 rfl ?_
    exact ⟨rfl, rfl⟩
  revert fin
  generalize (o + k) % 6 = p at hp
  revert p
  refine z6 ?_ ?_ ?_ ?_ ?_ ?_
  · intro fin
    refine zcallVb hC0 (mX0_become v (hv 0)) (zT_0 hv (nI o) (nI k) v) rfl (Nat.le_of_ble_eq_true rfl) vX0_become lk1_26 (by decide +kernel : decode cX1_takeBack 31 = .ok (.invokevirtual 26, 3)) rfl rfl rfl (Nat.le_of_ble_eq_true rfl) (Nat.le_of_ble_eq_true rfl) (Nat.le_of_ble_eq_true rfl) ?_
    exact fin
  · intro fin
    refine zcallVb hC0 (mX0_become v (hv 1)) (zT_1 hv (nI o) (nI k) v) rfl (Nat.le_of_ble_eq_true rfl) vX0_become lk1_26 (by decide +kernel : decode cX1_takeBack 31 = .ok (.invokevirtual 26, 3)) rfl rfl rfl (Nat.le_of_ble_eq_true rfl) (Nat.le_of_ble_eq_true rfl) (Nat.le_of_ble_eq_true rfl) ?_
    exact fin
  · intro fin
    refine zcallVb hC0 (mX0_become v (hv 2)) (zT_2 hv (nI o) (nI k) v) rfl (Nat.le_of_ble_eq_true rfl) vX0_become lk1_26 (by decide +kernel : decode cX1_takeBack 31 = .ok (.invokevirtual 26, 3)) rfl rfl rfl (Nat.le_of_ble_eq_true rfl) (Nat.le_of_ble_eq_true rfl) (Nat.le_of_ble_eq_true rfl) ?_
    exact fin
  · intro fin
    refine zcallVb hC0 (mX0_become v (hv 3)) (zT_3 hv (nI o) (nI k) v) rfl (Nat.le_of_ble_eq_true rfl) vX0_become lk1_26 (by decide +kernel : decode cX1_takeBack 31 = .ok (.invokevirtual 26, 3)) rfl rfl rfl (Nat.le_of_ble_eq_true rfl) (Nat.le_of_ble_eq_true rfl) (Nat.le_of_ble_eq_true rfl) ?_
    exact fin
  · intro fin
    refine zcallVb hC0 (mX0_become v (hv 4)) (zT_4 hv (nI o) (nI k) v) rfl (Nat.le_of_ble_eq_true rfl) vX0_become lk1_26 (by decide +kernel : decode cX1_takeBack 31 = .ok (.invokevirtual 26, 3)) rfl rfl rfl (Nat.le_of_ble_eq_true rfl) (Nat.le_of_ble_eq_true rfl) (Nat.le_of_ble_eq_true rfl) ?_
    exact fin
  · intro fin
    refine zcallVb hC0 (mX0_become v (hv 5)) (zT_5 hv (nI o) (nI k) v) rfl (Nat.le_of_ble_eq_true rfl) vX0_become lk1_26 (by decide +kernel : decode cX1_takeBack 31 = .ok (.invokevirtual 26, 3)) rfl rfl rfl (Nat.le_of_ble_eq_true rfl) (Nat.le_of_ble_eq_true rfl) (Nat.le_of_ble_eq_true rfl) ?_
    exact fin
