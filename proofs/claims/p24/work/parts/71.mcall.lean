/-! the calls of the class over the mirror's state, told by the first island's code -/
theorem mr_Lw {n : Nat} {v w : CV} (h : MR n v w) (hm : WM v n) (hl : WL v n) {i j : Nat} (hi : i < n) (hj : j < 9) : zLw w (nI i) n j = if j = 1 then nI 5 - zLw v (nI i) n j else if j = 2 then nx (zLw v (nI i) n j) else zLw v (nI i) n j := by
  obtain ⟨e2, e3, e4, e5, e6, e7, e8⟩ := h.2.2.1 i hi
  rcases (show j = 0 ∨ j = 1 ∨ j = 2 ∨ j = 3 ∨ j = 4 ∨ j = 5 ∨ j = 6 ∨ j = 7 ∨ j = 8 by omega) with rfl | rfl | rfl | rfl | rfl | rfl | rfl | rfl | rfl
  · show w 2 (nI i).toNatClampNeg = v 2 (nI i).toNatClampNeg
    rw [zcl hm.2 hi, e2]
  · show w 3 (nI i).toNatClampNeg = nI 5 - v 3 (nI i).toNatClampNeg
    rw [zcl hm.2 hi, e3]
  · show w 4 (nI i).toNatClampNeg = nx (v 4 (nI i).toNatClampNeg)
    rw [zcl hm.2 hi, e4]
  · show w 5 (nI i).toNatClampNeg = v 5 (nI i).toNatClampNeg
    rw [zcl hm.2 hi, e5]
  · show w 6 (nI i).toNatClampNeg = v 6 (nI i).toNatClampNeg
    rw [zcl hm.2 hi, e6]
  · show w 7 (nI i).toNatClampNeg = v 7 (nI i).toNatClampNeg
    rw [zcl hm.2 hi, e7]
  · show w 8 (nI i).toNatClampNeg = v 8 (nI i).toNatClampNeg
    rw [zcl hm.2 hi, e8]
  · show nI (cnt (fun j => zCT w (nI i) (nI j)) n) = nI (cnt (fun j => zCT v (nI i) (nI j)) n)
    rw [mr_law7 h hm hl hi]
  · show (if zH w (w 3 (nI i).toNatClampNeg) n = nI i then nI 1 else nI 0) = (if zH v (v 3 (nI i).toNatClampNeg) n = nI i then nI 1 else nI 0)
    obtain ⟨-, ⟨b, hb, eb⟩, -⟩ := hl i hi
    rw [zcl hm.2 hi, e3, eb, mt5 hb, mr_zH h hl hb]
theorem mr_Tp {n : Nat} {v w : CV} (h : MR n v w) (hm : WM v n) (hl : WL v n) {b j : Nat} (hb : b < 6) (hj : j < 5) : zTp w (nI (5 - b)) n j = if j = 1 then nx (zTp v (nI b) n j) else zTp v (nI b) n j := by
  rcases (show j = 0 ∨ j = 1 ∨ j = 2 ∨ j = 3 ∨ j = 4 by omega) with rfl | rfl | rfl | rfl | rfl
  · show nI (cnt (iT w (nI (5 - b))) n) = nI (cnt (iT v (nI b)) n)
    rw [mr_cIT h hl hb]
  · exact mr_zST h hm hl hb
  · exact mr_zH h hl hb
  · exact mr_zCI h hl hb
  · show nI (cnt (fun c => decide (zWo w (nI c) (nI (5 - b)) = zST w (nI (5 - b)) n)) 5) = nI (cnt (fun c => decide (zWo v (nI c) (nI b) = zST v (nI b) n)) 5)
    rw [mr_wc h hm hl hb]
theorem mr_Co {n : Nat} {v w : CV} (h : MR n v w) (hm : WM v n) (hl : WL v n) (a b c d : Int32) {j : Nat} (hj : j < 12) : zCo w a b n j = zCo v c d n j := by
  rcases (show j < 3 ∨ j = 3 ∨ j = 4 ∨ j = 5 ∨ j = 6 ∨ j = 7 ∨ j = 8 ∨ j = 9 ∨ j = 10 ∨ j = 11 by omega) with h3 | rfl | rfl | rfl | rfl | rfl | rfl | rfl | rfl | rfl
  · rcases (show j = 0 ∨ j = 1 ∨ j = 2 by omega) with rfl | rfl | rfl
    · exact h.1 0 (by omega)
    · exact h.1 1 (by omega)
    · exact h.1 2 (by omega)
  · exact h.2.2.2.2.1
  · exact h.2.2.2.1
  · show nI (cnt (iF w) n) = nI (cnt (iF v) n)
    rw [mr_cIF h]
  · show w 9 0 - nI (cnt (iF w) n) = v 9 0 - nI (cnt (iF v) n)
    rw [mr_cIF h, h.2.2.2.1]
  · exact mr_iW h
  · show nI (zps (fun i j => zCT w (nI i) (nI j)) n n) = nI (zps (fun i j => zCT v (nI i) (nI j)) n n)
    rw [zps_CT (mr_WM h hm), zps_CT hm, mr_zps h hl]
  · show zsm (fun t => zCI w (nI t) n) 6 = zsm (fun t => zCI v (nI t) n) 6
    rw [c9_8 (mr_WL h hl), c9_8 hl, mr_zps h hl]
  · show nI (cnt (fun t => decide (¬ zH w (nI t) n = -(nI 6))) 6) = nI (cnt (fun t => decide (¬ zH v (nI t) n = -(nI 6))) 6)
    rw [mr_c10 h hl]
  · exact h.2.2.2.2.2
theorem mr_c6 {n : Nat} {v w : CV} (h : MR n v w) (hm : WM v n) (hl : WL v n) {c : Nat} (hc : c < 5) : cnt (fun t => decide (zWo w (nI c) (nI t) = zST w (nI t) n)) 6 = cnt (fun t => decide (zWo v (nI c) (nI t) = zST v (nI t) n)) 6 := cnt_rev6 _ _ (fun t ht => decide_eq_decide.mpr (by
  show zWo w (nI c) (nI (5 - t)) = zST w (nI (5 - t)) n ↔ _
  rw [mr_Wo h hc ht, mr_zST h hm hl ht, nx_inj]))
theorem mr_c7 {n : Nat} {v w : CV} (h : MR n v w) (hl : WL v n) {c : Nat} (hc : c < 5) : cnt (iWL w (nI c)) n = cnt (iWL v (nI c)) n := cnt_congr (fun j hj => by
  obtain ⟨-, ⟨b, hb, eb⟩, -⟩ := hl j hj
  have es := h.2.2.1 j hj
  rw [iWL, iWL, mr_iF h hj, es.2.1, es.2.2.1, eb, mt5 hb, mr_Wo h hc hb]
  congr 1
  exact decide_eq_decide.mpr nx_inj)
section MWRAP
variable {n : Nat} {v : CV} (y : ZX)
theorem q_wish {a b : Nat} (hM : MR n v y.v) (w : Int32) (ha : a < 5) (hb : b < 6) (ho : y.o < 6) (hk : y.k ≤ 6) (hs : zWs2 w = true) : ZM yX3_wish cX3_wish 5 (some .int) 3 90 [.ref 0, .int (nI a), .int (nI 5 - nI b), .int w] y.h (some (.int (nx (zWo v (nI a) (nI b))))) (y.rem (vup y.v 1 (upd (y.v 1) (6 * a + (5 - b)) w))).h := by
  rw [mt5 hb, ← mr_Wo hM ha hb]
  exact o_wish y w ha (by omega) ho hk hs
theorem q_bestR {b c : Nat} (hM : MR n v y.v) (hm : WM v n) (hl : WL v n) (l : Int32) (hb : b < 6) (hc : c < 3) : ZM yX3_bestRepeal cX3_bestRepeal 5 (some .int) 4 100 [.ref 0, .int l, .int (nI 5 - nI b), .int (nx (nI c))] y.h (some (.int (zBestR v l (nI b) (nI c) n))) y.h := by
  rw [mt5 hb, ← mr_BestR hM hm hl hb hc]
  exact o_bestR y l _ _ (mr_WM hM hm)
theorem q_why {b c : Nat} (hM : MR n v y.v) (hm : WM v n) (hl : WL v n) (l x : Int32) (hb : b < 6) (hc : c < 3) : ZM yX3_why cX3_why 6 (some .int) 4 98 [.ref 0, .int l, .int (nI 5 - nI b), .int (nx (nI c)), .int x] y.h (some (.int (zWhy v l (nI b) (nI c) x n))) y.h := by
  rw [mt5 hb, ← mr_Why hM hm hl hb hc]
  exact o_why y l _ _ x (mr_WM hM hm)
theorem q_votes {b c : Nat} (hM : MR n v y.v) (hm : WM v n) (hl : WL v n) (l x : Int32) (hb : b < 6) (hc : c < 3) : ZM yX3_votes cX3_votes 6 (some .int) 3 73 [.ref 0, .int l, .int (nI 5 - nI b), .int (nx (nI c)), .int x] y.h (some (.int (zVotes v l (nI b) (nI c) x))) y.h := by
  rw [mt5 hb, ← mr_Votes hM hm hl hb hc]
  exact o_votes y l _ _ x (mr_WM hM hm)
theorem q_long {b c : Nat} (hM : MR n v y.v) (hm : WM v n) (hl : WL v n) (hb : b < 6) (hc : c < 3) : ZM yX3_longestBill cX3_longestBill 5 (some .int) 5 125 [.ref 0, .int (nI 5 - nI b), .int (nx (nI c))] y.h (some (.int (zLong v (nI b) (nI c) n))) y.h := by
  rw [mt5 hb, ← mr_Long hM hm hl hb hc]
  exact o_long y _ _ (mr_WM hM hm)
theorem q_topic {b j : Nat} (hM : MR n v y.v) (hm : WM v n) (hl : WL v n) (hb : b < 6) (hj : j < 5) : ZM yX3_topic cX3_topic 3 (some .int) 6 134 [.ref 0, .int (nI 5 - nI b), .int (nI j)] y.h (some (.int (if j = 1 then nx (zTp v (nI b) n j) else zTp v (nI b) n j))) y.h := by
  rw [mt5 hb, ← mr_Tp hM hm hl hb hj]
  exact o_topic y (by omega) hj (mr_WM hM hm)
theorem q_law {i j : Nat} (hM : MR n v y.v) (hm : WM v n) (hl : WL v n) (hi : i < n) (hj : j < 9) : ZM yX3_law cX3_law 3 (some .int) 4 88 [.ref 0, .int (nI i), .int (nI j)] y.h (some (.int (if j = 1 then nI 5 - zLw v (nI i) n j else if j = 2 then nx (zLw v (nI i) n j) else zLw v (nI i) n j))) y.h := by
  rw [← mr_Lw hM hm hl hi hj]
  exact o_law y hi hj (mr_WM hM hm)
theorem q_cw {c b : Nat} (hM : MR n v y.v) (hm : WM v n) (hc : c < 5) (hb : b < 6) : ZM yX3_councillor cX3_councillor 3 (some .int) 6 133 [.ref 0, .int (nI c), .int (nI 5 - nI b)] y.h (some (.int (nx (zWo v (nI c) (nI b))))) y.h := by
  rw [mt5 hb, ← mr_Wo hM hc hb]
  exact o_cw y hc (by omega) (mr_WM hM hm)
theorem q_c7 {c : Nat} (hM : MR n v y.v) (hm : WM v n) (hl : WL v n) (hc : c < 5) : ZM yX3_councillor cX3_councillor 3 (some .int) 6 133 [.ref 0, .int (nI c), .int (nI 7)] y.h (some (.int (nI (cnt (iWL v (nI c)) n)))) y.h := by
  rw [← mr_c7 hM hl hc]
  exact o_c7 y hc (mr_WM hM hm)
theorem q_count {j : Nat} (a b : Int32) (hM : MR n v y.v) (hm : WM v n) (hl : WL v n) (hj : j < 12) : ZM yX3_count cX3_count 2 (some .int) 6 134 [.ref 0, .int (nI j)] y.h (some (.int (zCo v a b n j))) y.h := by
  rw [← mr_Co hM hm hl (nI y.k) (nI y.q) a b hj]
  exact o_count y (by omega) (mr_WM hM hm)
theorem q_prop_f {b c : Nat} (hM : MR n v y.v) (hm : WM v n) (hl : WL v n) (l x : Int32) (hb : b < 6) (hc : c < 3) (hw : ¬ zWhy v l (nI b) (nI c) x n = nI 0) : ZM yX3_propose cX3_propose 6 (some .int) 5 123 [.ref 0, .int l, .int (nI 5 - nI b), .int (nx (nI c)), .int x] y.h (some (.int (if 0 ≤ zWhy v l (nI b) (nI c) x n then -(nI 5) else zWhy v l (nI b) (nI c) x n))) y.h := by
  rw [← mr_Why hM hm hl hb hc] at hw ⊢
  rw [mt5 hb]
  exact o_prop_f y l _ _ x (mr_WM hM hm) hw
theorem q_prop_t {b c : Nat} (hM : MR n v y.v) (hm : WM v n) (hl : WL v n) (l x : Int32) (hb : b < 6) (hc : c < 3) (ho : y.o < 6) (hk : y.k ≤ 6) (hw : zWhy v l (nI b) (nI c) x n = nI 0) : ZM yX3_propose cX3_propose 6 (some .int) 5 123 [.ref 0, .int l, .int (nI 5 - nI b), .int (nx (nI c)), .int x] y.h (some (.int (nI n))) (y.rem (zEN y.v l (nI (5 - b)) (nx (nI c)) x n)).h := by
  rw [← mr_Why hM hm hl hb hc] at hw
  rw [mt5 hb]
  exact o_prop_t y l _ _ x (mr_WM hM hm) ho hk hw
end MWRAP
