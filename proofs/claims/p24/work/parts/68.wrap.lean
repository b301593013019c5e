/-! the calls of the class over an object's state x -/
section WRAP
variable (x : ZX) {n : Nat} (hm : WM x.v n)
theorem o_count {j : Nat} (hj : j < 14) (hm : WM x.v n) : ZM yX3_count cX3_count 2 (some .int) 6 134 [.ref 0, .int (nI j)] x.h (some (.int (zCo x.v (nI x.k) (nI x.q) n j))) x.h := by
  have h := mX3_count x.v x.hv (nI x.o) (nI x.k) x.sv x.fl x.ps (nI x.q) (nI j) n hm
  rw [zCount, zix_at hj (by decide)] at h
  exact h
theorem o_law {i j : Nat} (hi : i < n) (hj : j < 9) (hm : WM x.v n) : ZM yX3_law cX3_law 3 (some .int) 4 88 [.ref 0, .int (nI i), .int (nI j)] x.h (some (.int (zLw x.v (nI i) n j))) x.h := by
  have h := mX3_law x.v x.hv (nI x.o) (nI x.k) x.sv x.fl x.ps (nI x.q) (nI i) (nI j) n hm
  rw [zLaw, zL_at hm hi, zix_at hj (by decide)] at h
  exact h
theorem o_lawf {i j : Nat} (hi : i < n) (hj : j < 7) (hm : WM x.v n) : ZM yX3_law cX3_law 3 (some .int) 4 88 [.ref 0, .int (nI i), .int (nI j)] x.h (some (.int (x.v (2 + j) i))) x.h := by
  have h := o_law x hi (show j < 9 by omega) hm
  have e : zLw x.v (nI i) n j = x.v (2 + j) i := by
    have e1 : zLw x.v (nI i) n j = x.v (2 + j) (nI i).toNatClampNeg := by
      rcases (show j = 0 ∨ j = 1 ∨ j = 2 ∨ j = 3 ∨ j = 4 ∨ j = 5 ∨ j = 6 by omega) with rfl | rfl | rfl | rfl | rfl | rfl | rfl <;> rfl
    rw [e1, zcl hm.2 hi]
  rw [e] at h
  exact h
theorem o_lawn {i : Nat} (hi : zL x.v (nI i) = false) (w : Int32) (hm : WM x.v n) : ZM yX3_law cX3_law 3 (some .int) 4 88 [.ref 0, .int (nI i), .int w] x.h (some (.int (-(nI 1)))) x.h := by
  have h := mX3_law x.v x.hv (nI x.o) (nI x.k) x.sv x.fl x.ps (nI x.q) (nI i) w n hm
  rw [zLaw, hi] at h
  exact h
theorem o_topic {t j : Nat} (ht : t < 6) (hj : j < 5) (hm : WM x.v n) : ZM yX3_topic cX3_topic 3 (some .int) 6 134 [.ref 0, .int (nI t), .int (nI j)] x.h (some (.int (zTp x.v (nI t) n j))) x.h := by
  have h := mX3_topic x.v x.hv (nI x.o) (nI x.k) x.sv x.fl x.ps (nI x.q) (nI t) (nI j) n hm
  rw [zTopic, zbt_n (Nat.zero_le t) ht (by decide), zix_at hj (by decide)] at h
  exact h
theorem o_cw {c t : Nat} (hc : c < 5) (ht : t < 6) (hm : WM x.v n) : ZM yX3_councillor cX3_councillor 3 (some .int) 6 133 [.ref 0, .int (nI c), .int (nI t)] x.h (some (.int (zWo x.v (nI c) (nI t)))) x.h := by
  have h := mX3_councillor x.v x.hv (nI x.o) (nI x.k) x.sv x.fl x.ps (nI x.q) (nI c) (nI t) n hm
  rw [zCn, zbt_n (Nat.zero_le c) hc (by decide), zbt_n (Nat.zero_le t) ht (by decide)] at h
  exact h
theorem o_c6 {c : Nat} (hc : c < 5) (hm : WM x.v n) : ZM yX3_councillor cX3_councillor 3 (some .int) 6 133 [.ref 0, .int (nI c), .int (nI 6)] x.h (some (.int (zor (fun t => decide (zWo x.v (nI c) (nI t) = zST x.v (nI t) n)) 6))) x.h := by
  have h := mX3_councillor x.v x.hv (nI x.o) (nI x.k) x.sv x.fl x.ps (nI x.q) (nI c) (nI 6) n hm
  rw [zCn, zbt_n (Nat.zero_le c) hc (by decide), zbt_f2 (nI_le (Nat.le_refl 6) (by decide))] at h
  exact h
theorem o_c7 {c : Nat} (hc : c < 5) (hm : WM x.v n) : ZM yX3_councillor cX3_councillor 3 (some .int) 6 133 [.ref 0, .int (nI c), .int (nI 7)] x.h (some (.int (nI (cnt (iWL x.v (nI c)) n)))) x.h := by
  have h := mX3_councillor x.v x.hv (nI x.o) (nI x.k) x.sv x.fl x.ps (nI x.q) (nI c) (nI 7) n hm
  rw [zCn, zbt_n (Nat.zero_le c) hc (by decide), zbt_f2 (nI_le (show 6 ≤ 7 by omega) (by decide))] at h
  exact h
theorem o_why (l t s y : Int32) (hm : WM x.v n) : ZM yX3_why cX3_why 6 (some .int) 4 98 [.ref 0, .int l, .int t, .int s, .int y] x.h (some (.int (zWhy x.v l t s y n))) x.h := mX3_why x.v x.hv (nI x.o) (nI x.k) x.sv x.fl x.ps (nI x.q) l t s y n hm
theorem o_votes (l t s y : Int32) (hm : WM x.v n) : ZM yX3_votes cX3_votes 6 (some .int) 3 73 [.ref 0, .int l, .int t, .int s, .int y] x.h (some (.int (zVotes x.v l t s y))) x.h := mX3_votes x.v x.hv (nI x.o) (nI x.k) x.sv x.fl x.ps (nI x.q) l t s y n hm
theorem o_bestR (l t s : Int32) (hm : WM x.v n) : ZM yX3_bestRepeal cX3_bestRepeal 5 (some .int) 4 100 [.ref 0, .int l, .int t, .int s] x.h (some (.int (zBestR x.v l t s n))) x.h := mX3_bestRepeal x.v x.hv (nI x.o) (nI x.k) x.sv x.fl x.ps (nI x.q) l t s n hm
theorem o_long (t s : Int32) (hm : WM x.v n) : ZM yX3_longestBill cX3_longestBill 5 (some .int) 5 125 [.ref 0, .int t, .int s] x.h (some (.int (zLong x.v t s n))) x.h := mX3_longestBill x.v x.hv (nI x.o) (nI x.k) x.sv x.fl x.ps (nI x.q) t s n hm
theorem o_best (hm : WM x.v n) : ZM yX3_bestBill cX3_bestBill 7 (some .int) 5 125 [.ref 0] x.h (some (.int (zBest x.v n))) x.h := mX3_bestBill x.v x.hv (nI x.o) (nI x.k) x.sv x.fl x.ps (nI x.q) n hm
theorem o_set {j : Nat} (y : Int32) (hj : j < 3) (ho : x.o < 6) (hk : x.k ≤ 6) (hs : zsok (nI j) y = true) : ZM yX3_set cX3_set 4 (some .int) 3 90 [.ref 0, .int (nI j), .int y] x.h (some (.int (x.v 0 j))) (x.rem (vup x.v 0 (upd (x.v 0) j y))).h := mX3_set_t x.v x.hv x.o x.k x.sv x.fl x.ps (nI x.q) y j hj ho hk hs
theorem o_wish {a b : Nat} (w : Int32) (ha : a < 5) (hb : b < 6) (ho : x.o < 6) (hk : x.k ≤ 6) (hs : zWs2 w = true) : ZM yX3_wish cX3_wish 5 (some .int) 3 90 [.ref 0, .int (nI a), .int (nI b), .int w] x.h (some (.int (zWo x.v (nI a) (nI b)))) (x.rem (vup x.v 1 (upd (x.v 1) (6 * a + b) w))).h := mX3_wish_t x.v x.hv x.o x.k x.sv x.fl x.ps (nI x.q) w a b ha hb ho hk hs
theorem o_prop_f (l t s y : Int32) (hm : WM x.v n) (hw : ¬ zWhy x.v l t s y n = nI 0) : ZM yX3_propose cX3_propose 6 (some .int) 5 123 [.ref 0, .int l, .int t, .int s, .int y] x.h (some (.int (if 0 ≤ zWhy x.v l t s y n then -(nI 5) else zWhy x.v l t s y n))) x.h := mX3_propose_f x.v x.hv (nI x.o) (nI x.k) x.sv x.fl x.ps (nI x.q) l t s y n hm hw
theorem o_prop_t (l t s y : Int32) (hm : WM x.v n) (ho : x.o < 6) (hk : x.k ≤ 6) (hw : zWhy x.v l t s y n = nI 0) : ZM yX3_propose cX3_propose 6 (some .int) 5 123 [.ref 0, .int l, .int t, .int s, .int y] x.h (some (.int (nI n))) (x.rem (zEN x.v l t s y n)).h := mX3_propose_t x.v x.hv x.o x.k x.sv x.fl x.ps (nI x.q) l t s y n hm ho hk hw
theorem o_rep_f (y : Int32) (hm : WM x.v n) (hs : zF x.v y = false) : ZM yX3_repeal cX3_repeal 2 (some .int) 3 90 [.ref 0, .int y] x.h (some (.int (zpk (zL x.v y) (-(nI 5)) (-(nI 1))))) x.h := mX3_repeal_a x.v x.hv (nI x.o) (nI x.k) x.sv x.fl x.ps (nI x.q) y n hm hs
theorem o_rep_t (y : Int32) (hm : WM x.v n) (ho : x.o < 6) (hk : x.k ≤ 6) (hs : zF x.v y = true) : ZM yX3_repeal cX3_repeal 2 (some .int) 3 90 [.ref 0, .int y] x.h (some (.int (x.v 10 0 - x.v 5 y.toNatClampNeg))) (x.rem (zEL x.v y (-(nI 6)))).h := mX3_repeal_t x.v x.hv x.o x.k x.sv x.fl x.ps (nI x.q) y n hm ho hk hs
theorem o_end (hm : WM x.v n) (ho : x.o < 6) (hk : x.k ≤ 6) : ZM yX3_endSession cX3_endSession 2 (some .int) 3 90 [.ref 0] x.h (some (.int (nI (cnt (iM x.v) n)))) (x.rem (zSe x.v)).h := mX3_endSession x.v x.hv x.o x.k x.sv x.fl x.ps (nI x.q) n hm ho hk
theorem o_wipe : ZM yX3_wipe cX3_wipe 2 (some .int) 1 20 [.ref 0] x.h (some (.int (nI x.q))) (ZX.h (x.v, x.hv, x.o, x.k, x.sv, x.fl, x.ps, 0)) := mX3_wipe x.v x.hv (nI x.o) (nI x.k) x.sv x.fl x.ps (nI x.q)
theorem o_undo {k : Nat} (hk1 : x.k = k + 1) (ho : x.o < 6) (hk : k < 6) : ZM yX3_undo cX3_undo 1 (some .int) 3 90 [.ref 0] x.h (some (.int (nI k))) (ZX.h (x.hv ((x.o + k) % 6), x.hv, x.o, k, x.sv, x.fl, x.ps, x.q)) := by
  have h := mX3_undo_t x.v x.hv x.o k x.sv x.fl x.ps (nI x.q) ho hk
  rw [← hk1] at h
  exact h
theorem o_save {j : Nat} (hj : j < 2) (hm : WM x.v n) : ZM yX3_save cX3_save 2 (some .int) 3 69 [.ref 0, .int (nI j)] x.h (some (.int (nI (cnt (iF x.v) n)))) (ZX.h (x.v, x.hv, x.o, x.k, hup x.sv j x.v, upd x.fl j (nI 1), x.ps, x.q)) := mX3_save_t x.v x.hv (nI x.o) (nI x.k) x.sv x.fl x.ps (nI x.q) j hj n hm
theorem o_rest_g {j : Nat} (hj : j < 2) (hf : x.fl j = nI 0) : ZM yX3_restore cX3_restore 2 (some .int) 3 90 [.ref 0, .int (nI j)] x.h (some (.int (-(nI 5)))) x.h := mX3_restore_g x.v x.hv (nI x.o) (nI x.k) x.sv x.fl x.ps (nI x.q) j hj hf
theorem o_rest_t {j : Nat} (hj : j < 2) (hm : WM (x.sv j) n) (ho : x.o < 6) (hk : x.k ≤ 6) (hf : ¬ x.fl j = nI 0) : ZM yX3_restore cX3_restore 2 (some .int) 3 90 [.ref 0, .int (nI j)] x.h (some (.int (nI (cnt (iF (x.sv j)) n)))) (x.rem (x.sv j)).h := mX3_restore_t x.v x.hv x.o x.k x.sv x.fl x.ps (nI x.q) j hj n hm ho hk hf
theorem o_read (hm : WM x.v n) (ho : x.o < 6) (hk : x.k ≤ 6) (hw : WP x.ps (nI x.q) x.q) (hf : zSc x.ps x.q x.q 0 0 = -(nI 6)) : ZM yX3_read cX3_read 3 (some .int) 5 124 [.ref 0] x.h (some (.int (nI (zRd x.ps x.q 21 0 x.v 0).2))) (ZX.h ((zRd x.ps x.q 21 0 x.v 0).1, hup x.hv ((x.o + x.k) % 6) x.v, (if x.k < 6 then x.o else (x.o + 1) % 6), (if x.k < 6 then x.k + 1 else 6), x.sv, x.fl, x.ps, 0)) := mX3_read_t x.v x.hv x.o x.k x.sv x.fl x.ps (nI x.q) n hm ho hk x.q hw hf
end WRAP
/-- a sign on the pad -/
def ZX.pp (x : ZX) (c : Int32) : ZX := (x.v, x.hv, x.o, x.k, x.sv, x.fl, upd x.ps x.q c, x.q + 1)
theorem zSI1 : ∀ k, k < 127 → 33 ≤ k → zSI 8 0 (lN k) = nI 1 := by decide +kernel
theorem zch1 : ∀ k, k < 127 → 33 ≤ k → zch (lN k) 0 = nI k := by decide +kernel
theorem o_put (x : ZX) {k : Nat} (h1 : k < 127) (h2 : 33 ≤ k) (hq : x.q + 1 ≤ 60) : ZM yX3_put cX3_put 5 (some .int) 1 26 [.ref 0, .long (lN k)] x.h (some (.int (nI (x.q + 1)))) (x.pp (nI k)).h := by
  have h := mX3_put_t x.v x.hv (nI x.o) (nI x.k) x.sv x.fl x.ps x.q 1 (lN k) (by decide) (by decide) (zSI1 k h1 h2) hq
  have e : zpp x.ps x.q (lN k) 1 1 = upd x.ps x.q (nI k) := by
    show upd x.ps (x.q + 0) (zch (lN k) 0) = _
    rw [zch1 k h1 h2]
    rfl
  rw [e] at h
  exact h
