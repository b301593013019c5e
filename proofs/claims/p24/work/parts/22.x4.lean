/-! RepealedLaws: set, wish, propose, repeal, endSession, undo, save, restore -/
theorem zin3' {j : Nat} (h : j < 3) : vp_in (nI j) 3 := vp_in_nI h (by decide)
def zpk (b : Bool) (x y : Int32) : Int32 := match b with
  | true => x
  | false => y
def zlo3 (j : Nat) : Nat := match j with
  | 0 => 1
  | 1 => 1
  | _ => 0
def zhi3 (j : Nat) : Nat := match j with
  | 0 => 5
  | 1 => 16
  | _ => 9
def zsok (x y : Int32) : Bool := match zix x 3 with
  | none => false
  | some j => decide (¬ y < nI (zlo3 j)) && decide (¬ nI (zhi3 j) < y)
theorem z3 {P : Nat → Prop} (h0 : P 0) (h1 : P 1) (h2 : P 2) : ∀ i, i < 3 → P i := by
  intro i hi
  match i, hi with
  | 0, _ => exact h0
  | 1, _ => exact h1
  | 2, _ => exact h2
  | n + 3, h => exact absurd h (by omega)
theorem zlo3_ok : ∀ j, j < 3 → zleast (nI j).toNatClampNeg = .int (nI (zlo3 j)) := z3 rfl rfl rfl
theorem zhi3_ok : ∀ j, j < 3 → zgreat (nI j).toNatClampNeg = .int (nI (zhi3 j)) := z3 rfl rfl rfl
theorem zdg : decode cX3_set 17 = .ok (.iaload, 1) := by decide +kernel
theorem zdg2 : decode cX3_set 26 = .ok (.iaload, 1) := by decide +kernel
theorem zdg3 : decode cX3_set 13 = .ok (.getstatic 38, 3) := by decide +kernel
theorem zdg4 : decode cX3_set 22 = .ok (.getstatic 42, 3) := by decide +kernel
set_option maxHeartbeats 2000000 in
set_option maxRecDepth 20000 in
theorem mX3_set_f (v : CV) (hv : Nat → CV) (ho hk : Int32) (sv : Nat → CV) (fl ps : Nat → Int32) (pl x y : Int32) (hs : zsok x y = false) : ZM yX3_set cX3_set 4 (some .int) 3 90 [.ref 0, .int x, .int y] (hX v hv ho hk sv fl ps pl) (some (.int (-(nI 2)))) (hX v hv ho hk sv fl ps pl) := by
  refine zm_of 3 qX3_set rfl rfl kX3_set rfl (Nat.le_of_ble_eq_true rfl) (fun C hC0 => ?_)
  rcases zcase x 3 (by decide) with ⟨j, hj, rfl⟩ | hw
  · rw [zsok, zix_at hj (by decide)] at hs
    have hs : (decide (¬ y < nI (zlo3 j)) && decide (¬ nI (zhi3 j) < y)) = false := hs
    refine zgo hC0 0 2 rfl ?_
    refine And.intro (fun c => absurd c (nI_pos (by omega))) (fun _ => ?_)
    refine zgo hC0 2 3 rfl ?_
    refine And.intro (fun _ => ?_) (fun c => absurd (nI_lt hj (by decide)) c)
    refine zgo hC0 7 1 rfl ?_
    refine zgets0 hC0 zdg3 ?_
    refine zgo hC0 9 1 rfl ?_
    refine ztab0 hC0 zdg (vp_in_nI hj (by decide)) (zlo3_ok j hj) ?_
    have at30 : C 30 [some (.ref 0), some (.int (nI j)), some (.int y), none] [] (hX v hv ho hk sv fl ps pl) := by
      refine zgo hC0 17 2 rfl ?_
      exact zret_i rfl
    refine zgo hC0 11 1 rfl ?_
    refine And.intro (fun _ => at30) (fun c => ?_)
    refine zgo hC0 12 1 rfl ?_
    refine zgets1 hC0 zdg4 ?_
    refine zgo hC0 14 1 rfl ?_
    refine ztab1 hC0 zdg2 (vp_in_nI hj (by decide)) (zhi3_ok j hj) ?_
    refine zgo hC0 16 1 rfl ?_
    refine And.intro (fun (c2 : y ≤ nI (zhi3 j)) => ?_) (fun _ => at30)
    rw [zand_t (decide_eq_true c) (decide_eq_true (Int32.not_lt.mpr c2))] at hs
    cases hs
  · have at9 : C 9 [some (.ref 0), some (.int x), some (.int y), none] [] (hX v hv ho hk sv fl ps pl) := by
      refine zgo hC0 5 2 rfl ?_
      exact zret_i rfl
    refine zgo hC0 0 2 rfl ?_
    refine And.intro (fun _ => at9) (fun c => ?_)
    refine zgo hC0 2 3 rfl ?_
    refine And.intro (fun (c2 : x < nI 3) => ?_) (fun _ => at9)
    rcases hw with q | q
    · exact absurd q c
    · exact absurd q (Int32.not_le.mpr c2)
set_option maxHeartbeats 2000000 in
set_option maxRecDepth 20000 in
theorem mX3_set_t (v : CV) (hv : Nat → CV) (o k : Nat) (sv : Nat → CV) (fl ps : Nat → Int32) (pl y : Int32) (j : Nat) (hj : j < 3) (ho : o < 6) (hk : k ≤ 6) (hs : zsok (nI j) y = true) : ZM yX3_set cX3_set 4 (some .int) 3 90 [.ref 0, .int (nI j), .int y] (hX v hv (nI o) (nI k) sv fl ps pl) (some (.int (v 0 j))) (hX (vup v 0 (upd (v 0) j y)) (hup hv ((o + k) % 6) v) (nI (if k < 6 then o else (o + 1) % 6)) (nI (if k < 6 then k + 1 else 6)) sv fl ps pl) := by
  refine zm_of 3 qX3_set rfl rfl kX3_set rfl (Nat.le_of_ble_eq_true rfl) (fun C hC0 => ?_)
  rw [zsok, zix_at hj (by decide)] at hs
  simp only [Bool.and_eq_true, decide_eq_true_eq] at hs
  have e : (nI j).toNatClampNeg = j := nI_clamp (by omega)
  refine zgo hC0 0 2 rfl ?_
  refine And.intro (fun c => absurd c (nI_pos (by omega))) (fun _ => ?_)
  refine zgo hC0 2 3 rfl ?_
  refine And.intro (fun _ => ?_) (fun c => absurd (nI_lt hj (by decide)) c)
  refine zgo hC0 7 1 rfl ?_
  refine zgets0 hC0 zdg3 ?_
  refine zgo hC0 9 1 rfl ?_
  refine ztab0 hC0 zdg (vp_in_nI hj (by decide)) (zlo3_ok j hj) ?_
  refine zgo hC0 11 1 rfl ?_
  refine And.intro (fun c => absurd c hs.1) (fun _ => ?_)
  refine zgo hC0 12 1 rfl ?_
  refine zgets1 hC0 zdg4 ?_
  refine zgo hC0 14 1 rfl ?_
  refine ztab1 hC0 zdg2 (vp_in_nI hj (by decide)) (zhi3_ok j hj) ?_
  refine zgo hC0 16 1 rfl ?_
  refine And.intro (fun _ => ?_) (fun c => absurd (Int32.not_lt.mp hs.2) c)
  refine zgo hC0 19 4 rfl ?_
  refine zcallVb hC0 (mX1_remember hv v o k ho hk) (zX_H v hv (nI o) (nI k) sv fl ps pl v (hup hv ((o + k) % 6) v) (nI (if k < 6 then o else (o + 1) % 6)) (nI (if k < 6 then k + 1 else 6))) rfl (Nat.le_of_ble_eq_true rfl) vX1_remember lk3_45 (by decide +kernel : decode cX3_set 41 = .ok (.invokevirtual 45, 3)) rfl rfl rfl (Nat.le_of_ble_eq_true rfl) (Nat.le_of_ble_eq_true rfl) (Nat.le_of_ble_eq_true rfl) ?_
  refine zgo hC0 24 14 rfl ?_
  refine And.intro (zin3' hj) (And.intro (zin3' hj) ?_)
  refine ⟨rfl, ?_, ?_⟩
  · show some (Value.int (v 0 j)) = some (Value.int (v 0 (nI j).toNatClampNeg))
    rw [e]
  · show hX (vup v 0 (upd (v 0) (nI j).toNatClampNeg y)) (hup hv ((o + k) % 6) v) (nI (if k < 6 then o else (o + 1) % 6)) (nI (if k < 6 then k + 1 else 6)) sv fl ps pl = _
    rw [e]
def zWs1 (c t : Int32) : Bool := zbt (nI 0) (nI 5) c && zbt (nI 0) (nI 6) t
def zWs2 (w : Int32) : Bool := zbt (nI 0) (nI 3) w || decide (w = nI 3)
set_option maxHeartbeats 2000000 in
set_option maxRecDepth 20000 in
theorem mX3_wish_a (v : CV) (hv : Nat → CV) (ho hk : Int32) (sv : Nat → CV) (fl ps : Nat → Int32) (pl c t w : Int32) (hs : zWs1 c t = false) : ZM yX3_wish cX3_wish 5 (some .int) 3 90 [.ref 0, .int c, .int t, .int w] (hX v hv ho hk sv fl ps pl) (some (.int (-(nI 1)))) (hX v hv ho hk sv fl ps pl) := by
  refine zm_of 3 qX3_wish rfl rfl kX3_wish rfl (Nat.le_of_ble_eq_true rfl) (fun C hC0 => ?_)
  have at14 : C 14 [some (.ref 0), some (.int c), some (.int t), some (.int w), none] [] (hX v hv ho hk sv fl ps pl) := by
    refine zgo hC0 6 2 rfl ?_
    exact zret_i rfl
  refine zgo hC0 0 1 rfl ?_
  refine zcallS hC0 (mX3_isCouncillor c (hX v hv ho hk sv fl ps pl)) vX3_isCouncillor lk3_52 (by decide +kernel : decode cX3_wish 1 = .ok (.invokestatic 52, 3)) rfl rfl (Nat.le_of_ble_eq_true rfl) (Nat.le_of_ble_eq_true rfl) (Nat.le_of_ble_eq_true rfl) ?_
  refine zgo hC0 2 1 rfl ?_
  refine And.intro (fun _ => at14) (fun c1 => ?_)
  refine zgo hC0 3 1 rfl ?_
  refine zcallS hC0 (mX3_isTopic t (hX v hv ho hk sv fl ps pl)) vX3_isTopic lk3_56 (by decide +kernel : decode cX3_wish 8 = .ok (.invokestatic 56, 3)) rfl rfl (Nat.le_of_ble_eq_true rfl) (Nat.le_of_ble_eq_true rfl) (Nat.le_of_ble_eq_true rfl) ?_
  refine zgo hC0 5 1 rfl ?_
  refine And.intro (fun c2 => ?_) (fun _ => at14)
  rw [zWs1, b2i_t c1, b2i_t c2] at hs
  cases hs
set_option maxHeartbeats 2000000 in
set_option maxRecDepth 20000 in
theorem mX3_wish_b (v : CV) (hv : Nat → CV) (ho hk : Int32) (sv : Nat → CV) (fl ps : Nat → Int32) (pl c t w : Int32) (hs : zWs1 c t = true) (hs2 : zWs2 w = false) : ZM yX3_wish cX3_wish 5 (some .int) 3 90 [.ref 0, .int c, .int t, .int w] (hX v hv ho hk sv fl ps pl) (some (.int (-(nI 2)))) (hX v hv ho hk sv fl ps pl) := by
  refine zm_of 3 qX3_wish rfl rfl kX3_wish rfl (Nat.le_of_ble_eq_true rfl) (fun C hC0 => ?_)
  rw [zWs1] at hs
  have hs := Bool.and_eq_true_iff.mp hs
  refine zgo hC0 0 1 rfl ?_
  refine zcallS hC0 (mX3_isCouncillor c (hX v hv ho hk sv fl ps pl)) vX3_isCouncillor lk3_52 (by decide +kernel : decode cX3_wish 1 = .ok (.invokestatic 52, 3)) rfl rfl (Nat.le_of_ble_eq_true rfl) (Nat.le_of_ble_eq_true rfl) (Nat.le_of_ble_eq_true rfl) ?_
  refine zgo hC0 2 1 rfl ?_
  refine And.intro (fun c1 => absurd (hs.1.symm.trans (b2i_f c1)) (by simp)) (fun _ => ?_)
  refine zgo hC0 3 1 rfl ?_
  refine zcallS hC0 (mX3_isTopic t (hX v hv ho hk sv fl ps pl)) vX3_isTopic lk3_56 (by decide +kernel : decode cX3_wish 8 = .ok (.invokestatic 56, 3)) rfl rfl (Nat.le_of_ble_eq_true rfl) (Nat.le_of_ble_eq_true rfl) (Nat.le_of_ble_eq_true rfl) ?_
  refine zgo hC0 5 1 rfl ?_
  refine And.intro (fun _ => ?_) (fun c1 => absurd (hs.2.symm.trans (b2i_f c1)) (by simp))
  refine zgo hC0 8 1 rfl ?_
  refine zcallS hC0 (mX3_isStance w (hX v hv ho hk sv fl ps pl)) vX3_isStance lk3_59 (by decide +kernel : decode cX3_wish 17 = .ok (.invokestatic 59, 3)) rfl rfl (Nat.le_of_ble_eq_true rfl) (Nat.le_of_ble_eq_true rfl) (Nat.le_of_ble_eq_true rfl) ?_
  refine zgo hC0 10 1 rfl ?_
  refine And.intro (fun c1 => ?_) (fun c1 => ?_)
  · rw [zWs2, b2i_t c1] at hs2
    cases hs2
  · refine zgo hC0 11 3 rfl ?_
    refine And.intro (fun (c2 : w = nI 3) => ?_) (fun (c2 : ¬ w = nI 3) => ?_)
    · rw [zWs2, decide_eq_true c2, Bool.or_true] at hs2
      cases hs2
    · refine zgo hC0 14 2 rfl ?_
      exact zret_i rfl
set_option maxHeartbeats 2000000 in
set_option maxRecDepth 20000 in
theorem mX3_wish_t (v : CV) (hv : Nat → CV) (o k : Nat) (sv : Nat → CV) (fl ps : Nat → Int32) (pl w : Int32) (a b : Nat) (ha : a < 5) (hb : b < 6) (ho : o < 6) (hk : k ≤ 6) (hs2 : zWs2 w = true) : ZM yX3_wish cX3_wish 5 (some .int) 3 90 [.ref 0, .int (nI a), .int (nI b), .int w] (hX v hv (nI o) (nI k) sv fl ps pl) (some (.int (zWo v (nI a) (nI b)))) (hX (vup v 1 (upd (v 1) (6 * a + b) w)) (hup hv ((o + k) % 6) v) (nI (if k < 6 then o else (o + 1) % 6)) (nI (if k < 6 then k + 1 else 6)) sv fl ps pl) := by
  refine zm_of 3 qX3_wish rfl rfl kX3_wish rfl (Nat.le_of_ble_eq_true rfl) (fun C hC0 => ?_)
  have e1 : zbt (nI 0) (nI 5) (nI a) = true := zbt_t (nI_pos (by omega)) (nI_ge ha (by decide))
  have e2 : zbt (nI 0) (nI 6) (nI b) = true := zbt_t (nI_pos (by omega)) (nI_ge hb (by decide))
  have e3 : nI a * nI 6 + nI b = nI (6 * a + b) := by rw [pk_mul, nI_add, Nat.mul_comm]
  have at31 : C 31 [some (.ref 0), some (.int (nI a)), some (.int (nI b)), some (.int w), none] [] (hX v hv (nI o) (nI k) sv fl ps pl) := by
    refine zgo hC0 16 4 rfl ?_
    refine zcallVb hC0 (mX1_remember hv v o k ho hk) (zX_H v hv (nI o) (nI k) sv fl ps pl v (hup hv ((o + k) % 6) v) (nI (if k < 6 then o else (o + 1) % 6)) (nI (if k < 6 then k + 1 else 6))) rfl (Nat.le_of_ble_eq_true rfl) vX1_remember lk3_45 (by decide +kernel : decode cX3_wish 39 = .ok (.invokevirtual 45, 3)) rfl rfl rfl (Nat.le_of_ble_eq_true rfl) (Nat.le_of_ble_eq_true rfl) (Nat.le_of_ble_eq_true rfl) ?_
    refine zgo hC0 21 4 rfl ?_
    refine zcallVb hC0 (mX0_wishOf v (nI a) (nI b)) (zX_C v (hup hv ((o + k) % 6) v) (nI (if k < 6 then o else (o + 1) % 6)) (nI (if k < 6 then k + 1 else 6)) sv fl ps pl v) rfl (Nat.le_of_ble_eq_true rfl) vX0_wishOf lk3_62 (by decide +kernel : decode cX3_wish 48 = .ok (.invokevirtual 62, 3)) rfl rfl rfl (Nat.le_of_ble_eq_true rfl) (Nat.le_of_ble_eq_true rfl) (Nat.le_of_ble_eq_true rfl) ?_
    refine zgo hC0 26 6 rfl ?_
    refine zcallVb hC0 (mX0_changeWish v (nI a) (nI b) w (6 * a + b) (by omega) e3) (zX_C v (hup hv ((o + k) % 6) v) (nI (if k < 6 then o else (o + 1) % 6)) (nI (if k < 6 then k + 1 else 6)) sv fl ps pl (vup v 1 (upd (v 1) (6 * a + b) w))) rfl (Nat.le_of_ble_eq_true rfl) vX0_changeWish lk3_66 (by decide +kernel : decode cX3_wish 60 = .ok (.invokevirtual 66, 3)) rfl rfl rfl (Nat.le_of_ble_eq_true rfl) (Nat.le_of_ble_eq_true rfl) (Nat.le_of_ble_eq_true rfl) ?_
    refine zgo hC0 33 2 rfl ?_
    exact zret_i rfl
  refine zgo hC0 0 1 rfl ?_
  refine zcallS hC0 (mX3_isCouncillor (nI a) (hX v hv (nI o) (nI k) sv fl ps pl)) vX3_isCouncillor lk3_52 (by decide +kernel : decode cX3_wish 1 = .ok (.invokestatic 52, 3)) rfl rfl (Nat.le_of_ble_eq_true rfl) (Nat.le_of_ble_eq_true rfl) (Nat.le_of_ble_eq_true rfl) ?_
  refine zgo hC0 2 1 rfl ?_
  refine And.intro (fun c1 => absurd (e1.symm.trans (b2i_f c1)) (by simp)) (fun _ => ?_)
  refine zgo hC0 3 1 rfl ?_
  refine zcallS hC0 (mX3_isTopic (nI b) (hX v hv (nI o) (nI k) sv fl ps pl)) vX3_isTopic lk3_56 (by decide +kernel : decode cX3_wish 8 = .ok (.invokestatic 56, 3)) rfl rfl (Nat.le_of_ble_eq_true rfl) (Nat.le_of_ble_eq_true rfl) (Nat.le_of_ble_eq_true rfl) ?_
  refine zgo hC0 5 1 rfl ?_
  refine And.intro (fun _ => ?_) (fun c1 => absurd (e2.symm.trans (b2i_f c1)) (by simp))
  refine zgo hC0 8 1 rfl ?_
  refine zcallS hC0 (mX3_isStance w (hX v hv (nI o) (nI k) sv fl ps pl)) vX3_isStance lk3_59 (by decide +kernel : decode cX3_wish 17 = .ok (.invokestatic 59, 3)) rfl rfl (Nat.le_of_ble_eq_true rfl) (Nat.le_of_ble_eq_true rfl) (Nat.le_of_ble_eq_true rfl) ?_
  refine zgo hC0 10 1 rfl ?_
  refine And.intro (fun _ => at31) (fun c1 => ?_)
  refine zgo hC0 11 3 rfl ?_
  refine And.intro (fun _ => at31) (fun (c2 : ¬ w = nI 3) => ?_)
  rw [zWs2, b2i_f c1, decide_eq_false c2] at hs2
  cases hs2
theorem zWhy_n {v : CV} {l t s x : Int32} {n : Nat} (hm : WM v n) (h : zWhy v l t s x n = nI 0) : n < 80 := by
  rw [zWhy] at h
  by_cases c : zEB v l t s x = nI 0
  · rw [if_pos c] at h
    cases hf : zFull v with
    | true => rw [hf] at h; exact absurd (show -(nI 4) = nI 0 from h) (by decide)
    | false =>
      rw [zFull] at hf
      have := of_decide_eq_false hf
      have h2 : nI n < nI 80 := by rw [← hm.1]; exact Classical.not_not.mp this
      exact (nI_ltI (by have := hm.2; omega) (by decide)).mp h2
  · rw [if_neg c] at h
    exact absurd h c
set_option maxHeartbeats 2000000 in
set_option maxRecDepth 20000 in
theorem mX3_propose_f (v : CV) (hv : Nat → CV) (ho hk : Int32) (sv : Nat → CV) (fl ps : Nat → Int32) (pl l t s x : Int32) (n : Nat) (hm : WM v n) (hw : ¬ zWhy v l t s x n = nI 0) : ZM yX3_propose cX3_propose 6 (some .int) 5 123 [.ref 0, .int l, .int t, .int s, .int x] (hX v hv ho hk sv fl ps pl) (some (.int (if 0 ≤ zWhy v l t s x n then -(nI 5) else zWhy v l t s x n))) (hX v hv ho hk sv fl ps pl) := by
  refine zm_of 3 qX3_propose rfl rfl kX3_propose rfl (Nat.le_of_ble_eq_true rfl) (fun C hC0 => ?_)
  refine zgo hC0 0 5 rfl ?_
  refine zcallV hC0 (mX3_why v hv ho hk sv fl ps pl l t s x n hm) vX3_why lk3_70 (by decide +kernel : decode cX3_propose 6 = .ok (.invokevirtual 70, 3)) rfl rfl rfl (Nat.le_of_ble_eq_true rfl) (Nat.le_of_ble_eq_true rfl) (Nat.le_of_ble_eq_true rfl) ?_
  refine zgo hC0 6 3 rfl ?_
  refine And.intro (fun c => ?_) (fun c => ?_)
  · refine zgo hC0 11 2 rfl ?_
    refine And.intro (fun c2 => absurd c2 hw) (fun _ => ?_)
    refine zgo hC0 13 2 rfl ?_
    exact zret_i (by rw [if_pos c]; rfl)
  · refine zgo hC0 9 2 rfl ?_
    exact zret_i (by rw [if_neg c])
set_option maxHeartbeats 2000000 in
set_option maxRecDepth 20000 in
theorem mX3_propose_t (v : CV) (hv : Nat → CV) (o k : Nat) (sv : Nat → CV) (fl ps : Nat → Int32) (pl l t s x : Int32) (n : Nat) (hm : WM v n) (ho : o < 6) (hk : k ≤ 6) (hw : zWhy v l t s x n = nI 0) : ZM yX3_propose cX3_propose 6 (some .int) 5 123 [.ref 0, .int l, .int t, .int s, .int x] (hX v hv (nI o) (nI k) sv fl ps pl) (some (.int (nI n))) (hX (zEN v l t s x n) (hup hv ((o + k) % 6) v) (nI (if k < 6 then o else (o + 1) % 6)) (nI (if k < 6 then k + 1 else 6)) sv fl ps pl) := by
  refine zm_of 3 qX3_propose rfl rfl kX3_propose rfl (Nat.le_of_ble_eq_true rfl) (fun C hC0 => ?_)
  refine zgo hC0 0 5 rfl ?_
  refine zcallV hC0 (mX3_why v hv (nI o) (nI k) sv fl ps pl l t s x n hm) vX3_why lk3_70 (by decide +kernel : decode cX3_propose 6 = .ok (.invokevirtual 70, 3)) rfl rfl rfl (Nat.le_of_ble_eq_true rfl) (Nat.le_of_ble_eq_true rfl) (Nat.le_of_ble_eq_true rfl) ?_
  rw [hw]
  refine zgo hC0 6 3 rfl ?_
  refine And.intro (fun _ => ?_) (fun c => absurd (by decide) c)
  refine zgo hC0 11 2 rfl ?_
  refine And.intro (fun _ => ?_) (fun c => absurd rfl c)
  refine zgo hC0 15 4 rfl ?_
  refine zcallVb hC0 (mX1_remember hv v o k ho hk) (zX_H v hv (nI o) (nI k) sv fl ps pl v (hup hv ((o + k) % 6) v) (nI (if k < 6 then o else (o + 1) % 6)) (nI (if k < 6 then k + 1 else 6))) rfl (Nat.le_of_ble_eq_true rfl) vX1_remember lk3_45 (by decide +kernel : decode cX3_propose 35 = .ok (.invokevirtual 45, 3)) rfl rfl rfl (Nat.le_of_ble_eq_true rfl) (Nat.le_of_ble_eq_true rfl) (Nat.le_of_ble_eq_true rfl) ?_
  refine zgo hC0 20 6 rfl ?_
  refine zcallVb hC0 (mX0_enact v l t s x n hm (zWhy_n hm hw)) (zX_C v (hup hv ((o + k) % 6) v) (nI (if k < 6 then o else (o + 1) % 6)) (nI (if k < 6 then k + 1 else 6)) sv fl ps pl (zEN v l t s x n)) rfl (Nat.le_of_ble_eq_true rfl) vX0_enact lk3_74 (by decide +kernel : decode cX3_propose 47 = .ok (.invokevirtual 74, 3)) rfl rfl rfl (Nat.le_of_ble_eq_true rfl) (Nat.le_of_ble_eq_true rfl) (Nat.le_of_ble_eq_true rfl) ?_
  refine zgo hC0 27 1 rfl ?_
  exact zret_i rfl
set_option maxHeartbeats 2000000 in
set_option maxRecDepth 20000 in
theorem mX3_repeal_a (v : CV) (hv : Nat → CV) (ho hk : Int32) (sv : Nat → CV) (fl ps : Nat → Int32) (pl x : Int32) (n : Nat) (hm : WM v n) (hs : zF v x = false) : ZM yX3_repeal cX3_repeal 2 (some .int) 3 90 [.ref 0, .int x] (hX v hv ho hk sv fl ps pl) (some (.int (zpk (zL v x) (-(nI 5)) (-(nI 1))))) (hX v hv ho hk sv fl ps pl) := by
  refine zm_of 3 qX3_repeal rfl rfl kX3_repeal rfl (Nat.le_of_ble_eq_true rfl) (fun C hC0 => ?_)
  refine zgo hC0 0 3 rfl ?_
  refine zcallVb hC0 (mX0_isLaw v x) (zX_C v hv ho hk sv fl ps pl v) rfl (Nat.le_of_ble_eq_true rfl) vX0_isLaw lk3_77 (by decide +kernel : decode cX3_repeal 5 = .ok (.invokevirtual 77, 3)) rfl rfl rfl (Nat.le_of_ble_eq_true rfl) (Nat.le_of_ble_eq_true rfl) (Nat.le_of_ble_eq_true rfl) ?_
  refine zgo hC0 4 1 rfl ?_
  refine And.intro (fun c => ?_) (fun c => ?_)
  · refine zgo hC0 7 3 rfl ?_
    refine zcallVb hC0 (mX0_inForce v x n hm) (zX_C v hv ho hk sv fl ps pl v) rfl (Nat.le_of_ble_eq_true rfl) vX0_inForce lk3_80 (by decide +kernel : decode cX3_repeal 18 = .ok (.invokevirtual 80, 3)) rfl rfl rfl (Nat.le_of_ble_eq_true rfl) (Nat.le_of_ble_eq_true rfl) (Nat.le_of_ble_eq_true rfl) ?_
    rw [hs]
    refine zgo hC0 11 1 rfl ?_
    refine And.intro (fun c2 => absurd rfl c2) (fun _ => ?_)
    refine zgo hC0 12 2 rfl ?_
    exact zret_i (by rw [b2i_t c]; rfl)
  · refine zgo hC0 5 2 rfl ?_
    exact zret_i (by rw [b2i_f c]; rfl)
set_option maxHeartbeats 2000000 in
set_option maxRecDepth 20000 in
theorem mX3_repeal_t (v : CV) (hv : Nat → CV) (o k : Nat) (sv : Nat → CV) (fl ps : Nat → Int32) (pl x : Int32) (n : Nat) (hm : WM v n) (ho : o < 6) (hk : k ≤ 6) (hs : zF v x = true) : ZM yX3_repeal cX3_repeal 2 (some .int) 3 90 [.ref 0, .int x] (hX v hv (nI o) (nI k) sv fl ps pl) (some (.int (v 10 0 - v 5 x.toNatClampNeg))) (hX (zEL v x (-(nI 6))) (hup hv ((o + k) % 6) v) (nI (if k < 6 then o else (o + 1) % 6)) (nI (if k < 6 then k + 1 else 6)) sv fl ps pl) := by
  refine zm_of 3 qX3_repeal rfl rfl kX3_repeal rfl (Nat.le_of_ble_eq_true rfl) (fun C hC0 => ?_)
  have hl := zF_L hs
  refine zgo hC0 0 3 rfl ?_
  refine zcallVb hC0 (mX0_isLaw v x) (zX_C v hv (nI o) (nI k) sv fl ps pl v) rfl (Nat.le_of_ble_eq_true rfl) vX0_isLaw lk3_77 (by decide +kernel : decode cX3_repeal 5 = .ok (.invokevirtual 77, 3)) rfl rfl rfl (Nat.le_of_ble_eq_true rfl) (Nat.le_of_ble_eq_true rfl) (Nat.le_of_ble_eq_true rfl) ?_
  rw [hl]
  refine zgo hC0 4 1 rfl ?_
  refine And.intro (fun _ => ?_) (fun c => absurd c (by decide))
  refine zgo hC0 7 3 rfl ?_
  refine zcallVb hC0 (mX0_inForce v x n hm) (zX_C v hv (nI o) (nI k) sv fl ps pl v) rfl (Nat.le_of_ble_eq_true rfl) vX0_inForce lk3_80 (by decide +kernel : decode cX3_repeal 18 = .ok (.invokevirtual 80, 3)) rfl rfl rfl (Nat.le_of_ble_eq_true rfl) (Nat.le_of_ble_eq_true rfl) (Nat.le_of_ble_eq_true rfl) ?_
  rw [hs]
  refine zgo hC0 11 1 rfl ?_
  refine And.intro (fun _ => ?_) (fun c => absurd c (by decide))
  refine zgo hC0 14 4 rfl ?_
  refine zcallVb hC0 (mX1_remember hv v o k ho hk) (zX_H v hv (nI o) (nI k) sv fl ps pl v (hup hv ((o + k) % 6) v) (nI (if k < 6 then o else (o + 1) % 6)) (nI (if k < 6 then k + 1 else 6))) rfl (Nat.le_of_ble_eq_true rfl) vX1_remember lk3_45 (by decide +kernel : decode cX3_repeal 35 = .ok (.invokevirtual 45, 3)) rfl rfl rfl (Nat.le_of_ble_eq_true rfl) (Nat.le_of_ble_eq_true rfl) (Nat.le_of_ble_eq_true rfl) ?_
  refine zgo hC0 19 4 rfl ?_
  refine zcallVb hC0 (mX0_endLaw v x (-(nI 6)) n hm) (zX_C v (hup hv ((o + k) % 6) v) (nI (if k < 6 then o else (o + 1) % 6)) (nI (if k < 6 then k + 1 else 6)) sv fl ps pl (zEL v x (-(nI 6)))) rfl (Nat.le_of_ble_eq_true rfl) vX0_endLaw lk3_83 (by decide +kernel : decode cX3_repeal 45 = .ok (.invokevirtual 83, 3)) rfl rfl rfl (Nat.le_of_ble_eq_true rfl) (Nat.le_of_ble_eq_true rfl) (Nat.le_of_ble_eq_true rfl) ?_
  refine zgo hC0 24 10 rfl ?_
  refine And.intro (zL_in hm hl) (zret_i ?_)
  show _ = zEL v x (-(nI 6)) 10 0 - zEL v x (-(nI 6)) 5 x.toNatClampNeg
  rw [zEL, hl]
  rfl
def zSe (v : CV) : CV := vup v 10 (upd (v 10) 0 (v 10 0 + nI 1))
set_option maxHeartbeats 2000000 in
set_option maxRecDepth 20000 in
theorem mX3_endSession (v : CV) (hv : Nat → CV) (o k : Nat) (sv : Nat → CV) (fl ps : Nat → Int32) (pl : Int32) (n : Nat) (hm : WM v n) (ho : o < 6) (hk : k ≤ 6) : ZM yX3_endSession cX3_endSession 2 (some .int) 3 90 [.ref 0] (hX v hv (nI o) (nI k) sv fl ps pl) (some (.int (nI (cnt (iM v) n)))) (hX (zSe v) (hup hv ((o + k) % 6) v) (nI (if k < 6 then o else (o + 1) % 6)) (nI (if k < 6 then k + 1 else 6)) sv fl ps pl) := by
  refine zm_of 3 qX3_endSession rfl rfl kX3_endSession rfl (Nat.le_of_ble_eq_true rfl) (fun C hC0 => ?_)
  refine zgo hC0 0 4 rfl ?_
  refine zcallVb hC0 (mX1_remember hv v o k ho hk) (zX_H v hv (nI o) (nI k) sv fl ps pl v (hup hv ((o + k) % 6) v) (nI (if k < 6 then o else (o + 1) % 6)) (nI (if k < 6 then k + 1 else 6))) rfl (Nat.le_of_ble_eq_true rfl) vX1_remember lk3_45 (by decide +kernel : decode cX3_endSession 8 = .ok (.invokevirtual 45, 3)) rfl rfl rfl (Nat.le_of_ble_eq_true rfl) (Nat.le_of_ble_eq_true rfl) (Nat.le_of_ble_eq_true rfl) ?_
  refine zgo hC0 5 2 rfl ?_
  refine zcallVb hC0 (mX0_madeInThisSession v n hm) (zX_C v (hup hv ((o + k) % 6) v) (nI (if k < 6 then o else (o + 1) % 6)) (nI (if k < 6 then k + 1 else 6)) sv fl ps pl v) rfl (Nat.le_of_ble_eq_true rfl) vX0_madeInThisSession lk3_94 (by decide +kernel : decode cX3_endSession 15 = .ok (.invokevirtual 94, 3)) rfl rfl rfl (Nat.le_of_ble_eq_true rfl) (Nat.le_of_ble_eq_true rfl) (Nat.le_of_ble_eq_true rfl) ?_
  refine zgo hC0 8 10 rfl ?_
  exact zret_i rfl
set_option maxHeartbeats 2000000 in
set_option maxRecDepth 20000 in
theorem mX3_undo_f (v : CV) (hv : Nat → CV) (ho : Int32) (sv : Nat → CV) (fl ps : Nat → Int32) (pl : Int32) : ZM yX3_undo cX3_undo 1 (some .int) 3 90 [.ref 0] (hX v hv ho (nI 0) sv fl ps pl) (some (.int (-(nI 5)))) (hX v hv ho (nI 0) sv fl ps pl) := by
  refine zm_of 3 qX3_undo rfl rfl kX3_undo rfl (Nat.le_of_ble_eq_true rfl) (fun C hC0 => ?_)
  refine zgo hC0 0 4 rfl ?_
  refine And.intro (fun c => absurd rfl c) (fun _ => ?_)
  refine zgo hC0 4 2 rfl ?_
  exact zret_i rfl
set_option maxHeartbeats 2000000 in
set_option maxRecDepth 20000 in
theorem mX3_undo_t (v : CV) (hv : Nat → CV) (o k : Nat) (sv : Nat → CV) (fl ps : Nat → Int32) (pl : Int32) (ho : o < 6) (hk : k < 6) : ZM yX3_undo cX3_undo 1 (some .int) 3 90 [.ref 0] (hX v hv (nI o) (nI (k + 1)) sv fl ps pl) (some (.int (nI k))) (hX (hv ((o + k) % 6)) hv (nI o) (nI k) sv fl ps pl) := by
  refine zm_of 3 qX3_undo rfl rfl kX3_undo rfl (Nat.le_of_ble_eq_true rfl) (fun C hC0 => ?_)
  refine zgo hC0 0 4 rfl ?_
  refine And.intro (fun _ => ?_) (fun c => absurd c (nI_ne0 (by omega) (by omega)))
  refine zgo hC0 6 4 rfl ?_
  refine zcallVb hC0 (mX1_takeBack hv v o k ho hk) (zX_H v hv (nI o) (nI (k + 1)) sv fl ps pl (hv ((o + k) % 6)) hv (nI o) (nI k)) rfl (Nat.le_of_ble_eq_true rfl) vX1_takeBack lk3_220 (by decide +kernel : decode cX3_undo 21 = .ok (.invokevirtual 220, 3)) rfl rfl rfl (Nat.le_of_ble_eq_true rfl) (Nat.le_of_ble_eq_true rfl) (Nat.le_of_ble_eq_true rfl) ?_
  refine zgo hC0 11 4 rfl ?_
  exact zret_i rfl
theorem z2 {P : Nat → Prop} (h0 : P 0) (h1 : P 1) : ∀ i, i < 2 → P i := by
  intro i hi
  match i, hi with
  | 0, _ => exact h0
  | 1, _ => exact h1
  | n + 2, h => exact absurd h (by omega)
set_option maxHeartbeats 2000000 in
set_option maxRecDepth 20000 in
theorem mX3_save_f (v : CV) (hv : Nat → CV) (ho hk : Int32) (sv : Nat → CV) (fl ps : Nat → Int32) (pl x : Int32) (hs : zbt (nI 0) (nI 2) x = false) : ZM yX3_save cX3_save 2 (some .int) 3 69 [.ref 0, .int x] (hX v hv ho hk sv fl ps pl) (some (.int (-(nI 2)))) (hX v hv ho hk sv fl ps pl) := by
  refine zm_of 3 qX3_save rfl rfl kX3_save rfl (Nat.le_of_ble_eq_true rfl) (fun C hC0 => ?_)
  refine zgo hC0 0 1 rfl ?_
  refine zcallS hC0 (mX3_isSlot x (hX v hv ho hk sv fl ps pl)) vX3_isSlot lk3_223 (by decide +kernel : decode cX3_save 1 = .ok (.invokestatic 223, 3)) rfl rfl (Nat.le_of_ble_eq_true rfl) (Nat.le_of_ble_eq_true rfl) (Nat.le_of_ble_eq_true rfl) ?_
  rw [hs]
  refine zgo hC0 2 1 rfl ?_
  refine And.intro (fun c => absurd rfl c) (fun _ => ?_)
  refine zgo hC0 3 2 rfl ?_
  exact zret_i rfl
set_option maxHeartbeats 2000000 in
set_option maxRecDepth 20000 in
theorem mX3_save_t (v : CV) (hv : Nat → CV) (ho hk : Int32) (sv : Nat → CV) (fl ps : Nat → Int32) (pl : Int32) (j : Nat) (hj : j < 2) (n : Nat) (hm : WM v n) : ZM yX3_save cX3_save 2 (some .int) 3 69 [.ref 0, .int (nI j)] (hX v hv ho hk sv fl ps pl) (some (.int (nI (cnt (iF v) n)))) (hX v hv ho hk (hup sv j v) (upd fl j (nI 1)) ps pl) := by
  refine zm_of 3 qX3_save rfl rfl kX3_save rfl (Nat.le_of_ble_eq_true rfl) (fun C hC0 => ?_)
  have hs : zbt (nI 0) (nI 2) (nI j) = true := zbt_t (nI_pos (by omega)) (nI_ge hj (by decide))
  have e : (nI j).toNatClampNeg = j := nI_clamp (by omega)
  have fin : C 23 [some (.ref 0), some (.int (nI j))] [] (hX v hv ho hk (hup sv j v) fl ps pl) := by
    refine zgo hC0 12 7 rfl ?_
    refine And.intro (vp_in_nI (N := 2) hj (by decide)) ?_
    show C 34 [some (.ref 0), some (.int (nI j))] [.ref 1] (hX v hv ho hk (hup sv j v) (upd fl (nI j).toNatClampNeg (vp_nar .boolean (nI 1))) ps pl)
    rw [e, show vp_nar .boolean (nI 1) = nI 1 from rfl]
    refine zcallVb hC0 (mX0_lawsInForce v n hm) (zX_C v hv ho hk (hup sv j v) (upd fl j (nI 1)) ps pl v) rfl (Nat.le_of_ble_eq_true rfl) vX0_lawsInForce lk3_172 (by decide +kernel : decode cX3_save 34 = .ok (.invokevirtual 172, 3)) rfl rfl rfl (Nat.le_of_ble_eq_true rfl) (Nat.le_of_ble_eq_true rfl) (Nat.le_of_ble_eq_true rfl) ?_
    refine zgo hC0 20 1 rfl ?_
    exact zret_i rfl
  refine zgo hC0 0 1 rfl ?_
  refine zcallS hC0 (mX3_isSlot (nI j) (hX v hv ho hk sv fl ps pl)) vX3_isSlot lk3_223 (by decide +kernel : decode cX3_save 1 = .ok (.invokestatic 223, 3)) rfl rfl (Nat.le_of_ble_eq_true rfl) (Nat.le_of_ble_eq_true rfl) (Nat.le_of_ble_eq_true rfl) ?_
  rw [hs]
  refine zgo hC0 2 1 rfl ?_
  refine And.intro (fun _ => ?_) (fun c => absurd c (by decide))
  refine zgo hC0 5 6 rfl ?_
  refine And.intro (vp_in_nI (N := 2) hj (by decide)) ?_
  show C 20 [some (.ref 0), some (.int (nI j))] [.ref 1, .ref (76 + 10 * (nI j).toNatClampNeg)] (hX v hv ho hk sv fl ps pl)
  rw [e]
  revert j
  refine z2 ?_ ?_
  · intro hC0 hs e fin
    refine zcallVb hC0 (mX0_become (sv 0) v) (zX_S0 v hv ho hk sv fl ps pl) rfl (Nat.le_of_ble_eq_true rfl) vX0_become lk3_226 (by decide +kernel : decode cX3_save 20 = .ok (.invokevirtual 226, 3)) rfl rfl rfl (Nat.le_of_ble_eq_true rfl) (Nat.le_of_ble_eq_true rfl) (Nat.le_of_ble_eq_true rfl) ?_
    exact fin
  · intro hC0 hs e fin
    refine zcallVb hC0 (mX0_become (sv 1) v) (zX_S1 v hv ho hk sv fl ps pl) rfl (Nat.le_of_ble_eq_true rfl) vX0_become lk3_226 (by decide +kernel : decode cX3_save 20 = .ok (.invokevirtual 226, 3)) rfl rfl rfl (Nat.le_of_ble_eq_true rfl) (Nat.le_of_ble_eq_true rfl) (Nat.le_of_ble_eq_true rfl) ?_
    exact fin
set_option maxHeartbeats 2000000 in
set_option maxRecDepth 20000 in
theorem mX3_restore_f (v : CV) (hv : Nat → CV) (ho hk : Int32) (sv : Nat → CV) (fl ps : Nat → Int32) (pl x : Int32) (hs : zbt (nI 0) (nI 2) x = false) : ZM yX3_restore cX3_restore 2 (some .int) 3 90 [.ref 0, .int x] (hX v hv ho hk sv fl ps pl) (some (.int (-(nI 2)))) (hX v hv ho hk sv fl ps pl) := by
  refine zm_of 3 qX3_restore rfl rfl kX3_restore rfl (Nat.le_of_ble_eq_true rfl) (fun C hC0 => ?_)
  refine zgo hC0 0 1 rfl ?_
  refine zcallS hC0 (mX3_isSlot x (hX v hv ho hk sv fl ps pl)) vX3_isSlot lk3_223 (by decide +kernel : decode cX3_restore 1 = .ok (.invokestatic 223, 3)) rfl rfl (Nat.le_of_ble_eq_true rfl) (Nat.le_of_ble_eq_true rfl) (Nat.le_of_ble_eq_true rfl) ?_
  rw [hs]
  refine zgo hC0 2 1 rfl ?_
  refine And.intro (fun c => absurd rfl c) (fun _ => ?_)
  refine zgo hC0 3 2 rfl ?_
  exact zret_i rfl
set_option maxHeartbeats 2000000 in
set_option maxRecDepth 20000 in
theorem mX3_restore_g (v : CV) (hv : Nat → CV) (ho hk : Int32) (sv : Nat → CV) (fl ps : Nat → Int32) (pl : Int32) (j : Nat) (hj : j < 2) (hf : fl j = nI 0) : ZM yX3_restore cX3_restore 2 (some .int) 3 90 [.ref 0, .int (nI j)] (hX v hv ho hk sv fl ps pl) (some (.int (-(nI 5)))) (hX v hv ho hk sv fl ps pl) := by
  refine zm_of 3 qX3_restore rfl rfl kX3_restore rfl (Nat.le_of_ble_eq_true rfl) (fun C hC0 => ?_)
  have hs : zbt (nI 0) (nI 2) (nI j) = true := zbt_t (nI_pos (by omega)) (nI_ge hj (by decide))
  have e : (nI j).toNatClampNeg = j := nI_clamp (by omega)
  refine zgo hC0 0 1 rfl ?_
  refine zcallS hC0 (mX3_isSlot (nI j) (hX v hv ho hk sv fl ps pl)) vX3_isSlot lk3_223 (by decide +kernel : decode cX3_restore 1 = .ok (.invokestatic 223, 3)) rfl rfl (Nat.le_of_ble_eq_true rfl) (Nat.le_of_ble_eq_true rfl) (Nat.le_of_ble_eq_true rfl) ?_
  rw [hs]
  refine zgo hC0 2 1 rfl ?_
  refine And.intro (fun _ => ?_) (fun c => absurd c (by decide))
  refine zgo hC0 5 5 rfl ?_
  refine And.intro (vp_in_nI (N := 2) hj (by decide)) (And.intro (fun (c : ¬ fl (nI j).toNatClampNeg = nI 0) => absurd (by rw [e]; exact hf) c) (fun _ => ?_))
  refine zgo hC0 10 2 rfl ?_
  exact zret_i rfl
set_option maxHeartbeats 2000000 in
set_option maxRecDepth 20000 in
theorem mX3_restore_t (v : CV) (hv : Nat → CV) (o k : Nat) (sv : Nat → CV) (fl ps : Nat → Int32) (pl : Int32) (j : Nat) (hj : j < 2) (n : Nat) (hm : WM (sv j) n) (ho : o < 6) (hk : k ≤ 6) (hf : ¬ fl j = nI 0) : ZM yX3_restore cX3_restore 2 (some .int) 3 90 [.ref 0, .int (nI j)] (hX v hv (nI o) (nI k) sv fl ps pl) (some (.int (nI (cnt (iF (sv j)) n)))) (hX (sv j) (hup hv ((o + k) % 6) v) (nI (if k < 6 then o else (o + 1) % 6)) (nI (if k < 6 then k + 1 else 6)) sv fl ps pl) := by
  refine zm_of 3 qX3_restore rfl rfl kX3_restore rfl (Nat.le_of_ble_eq_true rfl) (fun C hC0 => ?_)
  have hs : zbt (nI 0) (nI 2) (nI j) = true := zbt_t (nI_pos (by omega)) (nI_ge hj (by decide))
  have e : (nI j).toNatClampNeg = j := nI_clamp (by omega)
  have fin : C 46 [some (.ref 0), some (.int (nI j))] [] (hX (sv j) (hup hv ((o + k) % 6) v) (nI (if k < 6 then o else (o + 1) % 6)) (nI (if k < 6 then k + 1 else 6)) sv fl ps pl) := by
    refine zgo hC0 24 2 rfl ?_
    refine zcallVb hC0 (mX0_lawsInForce (sv j) n hm) (zX_C (sv j) (hup hv ((o + k) % 6) v) (nI (if k < 6 then o else (o + 1) % 6)) (nI (if k < 6 then k + 1 else 6)) sv fl ps pl (sv j)) rfl (Nat.le_of_ble_eq_true rfl) vX0_lawsInForce lk3_172 (by decide +kernel : decode cX3_restore 50 = .ok (.invokevirtual 172, 3)) rfl rfl rfl (Nat.le_of_ble_eq_true rfl) (Nat.le_of_ble_eq_true rfl) (Nat.le_of_ble_eq_true rfl) ?_
    refine zgo hC0 27 1 rfl ?_
    exact zret_i rfl
  refine zgo hC0 0 1 rfl ?_
  refine zcallS hC0 (mX3_isSlot (nI j) (hX v hv (nI o) (nI k) sv fl ps pl)) vX3_isSlot lk3_223 (by decide +kernel : decode cX3_restore 1 = .ok (.invokestatic 223, 3)) rfl rfl (Nat.le_of_ble_eq_true rfl) (Nat.le_of_ble_eq_true rfl) (Nat.le_of_ble_eq_true rfl) ?_
  rw [hs]
  refine zgo hC0 2 1 rfl ?_
  refine And.intro (fun _ => ?_) (fun c => absurd c (by decide))
  refine zgo hC0 5 5 rfl ?_
  refine And.intro (vp_in_nI (N := 2) hj (by decide)) (And.intro (fun _ => ?_) (fun (c : fl (nI j).toNatClampNeg = nI 0) => absurd (by rw [← e]; exact c) hf))
  refine zgo hC0 12 4 rfl ?_
  refine zcallVb hC0 (mX1_remember hv v o k ho hk) (zX_H v hv (nI o) (nI k) sv fl ps pl v (hup hv ((o + k) % 6) v) (nI (if k < 6 then o else (o + 1) % 6)) (nI (if k < 6 then k + 1 else 6))) rfl (Nat.le_of_ble_eq_true rfl) vX1_remember lk3_45 (by decide +kernel : decode cX3_restore 30 = .ok (.invokevirtual 45, 3)) rfl rfl rfl (Nat.le_of_ble_eq_true rfl) (Nat.le_of_ble_eq_true rfl) (Nat.le_of_ble_eq_true rfl) ?_
  refine zgo hC0 17 6 rfl ?_
  refine And.intro (vp_in_nI (N := 2) hj (by decide)) ?_
  show C 43 [some (.ref 0), some (.int (nI j))] [.ref (76 + 10 * (nI j).toNatClampNeg), .ref 1] (hX v (hup hv ((o + k) % 6) v) (nI (if k < 6 then o else (o + 1) % 6)) (nI (if k < 6 then k + 1 else 6)) sv fl ps pl)
  rw [e]
  revert j
  refine z2 ?_ ?_
  · intro hm hf hC0 hs e fin _
    show C 43 [some (.ref 0), some (.int (nI 0))] [.ref 76, .ref 1] (hX v (hup hv ((o + k) % 6) v) (nI (if k < 6 then o else (o + 1) % 6)) (nI (if k < 6 then k + 1 else 6)) sv fl ps pl)
    refine zcallVb hC0 (mX0_become v (sv 0)) (zX_Q0 v (hup hv ((o + k) % 6) v) (nI (if k < 6 then o else (o + 1) % 6)) (nI (if k < 6 then k + 1 else 6)) sv fl ps pl) rfl (Nat.le_of_ble_eq_true rfl) vX0_become lk3_226 (by decide +kernel : decode cX3_restore 43 = .ok (.invokevirtual 226, 3)) rfl rfl rfl (Nat.le_of_ble_eq_true rfl) (Nat.le_of_ble_eq_true rfl) (Nat.le_of_ble_eq_true rfl) ?_
    exact fin
  · intro hm hf hC0 hs e fin _
    show C 43 [some (.ref 0), some (.int (nI 1))] [.ref 86, .ref 1] (hX v (hup hv ((o + k) % 6) v) (nI (if k < 6 then o else (o + 1) % 6)) (nI (if k < 6 then k + 1 else 6)) sv fl ps pl)
    refine zcallVb hC0 (mX0_become v (sv 1)) (zX_Q1 v (hup hv ((o + k) % 6) v) (nI (if k < 6 then o else (o + 1) % 6)) (nI (if k < 6 then k + 1 else 6)) sv fl ps pl) rfl (Nat.le_of_ble_eq_true rfl) vX0_become lk3_226 (by decide +kernel : decode cX3_restore 43 = .ok (.invokevirtual 226, 3)) rfl rfl rfl (Nat.le_of_ble_eq_true rfl) (Nat.le_of_ble_eq_true rfl) (Nat.le_of_ble_eq_true rfl) ?_
    exact fin
