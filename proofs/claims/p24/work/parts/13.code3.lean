/-! RepealedLaws.Code: councillors, votes, reasons -/
set_option maxHeartbeats 2000000 in
set_option maxRecDepth 20000 in
theorem mX0_councillorsContentIn (v : CV) (t : Int32) (n : Nat) (hm : WM v n) : ZM yX0_councillorsContentIn cX0_councillorsContentIn 5 (some .int) 5 110 [.ref 0, .int t] (hC v) (some (.int (nI (cnt (fun c => decide (zWo v (nI c) t = zST v t n)) 5)))) (hC v) := by
  refine zm_of 0 qX0_councillorsContentIn rfl rfl kX0_councillorsContentIn rfl (Nat.le_of_ble_eq_true rfl) (fun C hC0 => ?_)
  refine zgo hC0 0 2 rfl ?_
  refine zcallV hC0 (mX0_stanceHeldIn v t n hm) vX0_stanceHeldIn lk0_80 (by decide +kernel : decode cX0_councillorsContentIn 2 = .ok (.invokevirtual 80, 3)) rfl rfl rfl (Nat.le_of_ble_eq_true rfl) (Nat.le_of_ble_eq_true rfl) (Nat.le_of_ble_eq_true rfl) ?_
  refine zgo hC0 3 5 rfl ?_
  refine zloop 5 (fun i => ∀ a x : Int32, a = nI (cnt (fun c => decide (zWo v (nI c) t = zST v t n)) i) → x = nI i → C 11 [some (.ref 0), some (.int t), some (.int (zST v t n)), some (.int a), some (.int x)] [] (hC v)) ?_ ?_ _ _ rfl rfl
  · rintro a x rfl rfl
    refine zgo hC0 8 3 rfl ?_
    refine And.intro (fun _ => ?_) (fun c => absurd (nI_le (Nat.le_refl 5) (by decide)) c)
    refine zgo hC0 20 2 rfl ?_
    exact zret_i rfl
  · rintro i hi ih a x rfl rfl
    refine zgo hC0 8 3 rfl ?_
    refine And.intro (fun c => absurd c (nI_ge hi (by decide))) (fun _ => ?_)
    refine zgo hC0 11 3 rfl ?_
    refine zcallV hC0 (mX0_wishOf v (nI i) t) vX0_wishOf lk0_83 (by decide +kernel : decode cX0_councillorsContentIn 21 = .ok (.invokevirtual 83, 3)) rfl rfl rfl (Nat.le_of_ble_eq_true rfl) (Nat.le_of_ble_eq_true rfl) (Nat.le_of_ble_eq_true rfl) ?_
    refine zgo hC0 15 2 rfl ?_
    refine And.intro (fun (c : ¬ zWo v (nI i) t = zST v t n) => ?_) (fun (c : zWo v (nI i) t = zST v t n) => ?_)
    · refine zgo hC0 18 2 rfl ?_
      exact ih _ _ (cnt_f (p := fun c => decide (zWo v (nI c) t = zST v t n)) (decide_eq_false c)) (nI_add i 1)
    · refine zgo hC0 17 3 rfl ?_
      exact ih _ _ (cnt_t (p := fun c => decide (zWo v (nI c) t = zST v t n)) (decide_eq_true c)) (nI_add i 1)
/-- a set of small numbers, as a mask -/
def zor (p : Nat → Bool) : Nat → Int32
  | 0 => nI 0
  | k + 1 => match p k with
    | true => zor p k ||| (nI 1 <<< (nI k &&& 31))
    | false => zor p k
set_option maxHeartbeats 2000000 in
set_option maxRecDepth 20000 in
theorem mX0_topicsAsWishedBy (v : CV) (c : Int32) (n : Nat) (hm : WM v n) : ZM yX0_topicsAsWishedBy cX0_topicsAsWishedBy 4 (some .int) 5 110 [.ref 0, .int c] (hC v) (some (.int (zor (fun t => decide (zWo v c (nI t) = zST v (nI t) n)) 6))) (hC v) := by
  refine zm_of 0 qX0_topicsAsWishedBy rfl rfl kX0_topicsAsWishedBy rfl (Nat.le_of_ble_eq_true rfl) (fun C hC0 => ?_)
  refine zgo hC0 0 4 rfl ?_
  refine zloop 6 (fun i => ∀ a x : Int32, a = zor (fun t => decide (zWo v c (nI t) = zST v (nI t) n)) i → x = nI i → C 4 [some (.ref 0), some (.int c), some (.int a), some (.int x)] [] (hC v)) ?_ ?_ _ _ rfl rfl
  · rintro a x rfl rfl
    refine zgo hC0 4 3 rfl ?_
    refine And.intro (fun _ => ?_) (fun c => absurd (nI_le (Nat.le_refl 6) (by decide)) c)
    refine zgo hC0 23 2 rfl ?_
    exact zret_i rfl
  · rintro i hi ih a x rfl rfl
    refine zgo hC0 4 3 rfl ?_
    refine And.intro (fun c => absurd c (nI_ge hi (by decide))) (fun _ => ?_)
    refine zgo hC0 7 3 rfl ?_
    refine zcallV hC0 (mX0_wishOf v c (nI i)) vX0_wishOf lk0_83 (by decide +kernel : decode cX0_topicsAsWishedBy 13 = .ok (.invokevirtual 83, 3)) rfl rfl rfl (Nat.le_of_ble_eq_true rfl) (Nat.le_of_ble_eq_true rfl) (Nat.le_of_ble_eq_true rfl) ?_
    refine zgo hC0 11 2 rfl ?_
    refine zcallV hC0 (mX0_stanceHeldIn v (nI i) n hm) vX0_stanceHeldIn lk0_80 (by decide +kernel : decode cX0_topicsAsWishedBy 18 = .ok (.invokevirtual 80, 3)) rfl rfl rfl (Nat.le_of_ble_eq_true rfl) (Nat.le_of_ble_eq_true rfl) (Nat.le_of_ble_eq_true rfl) ?_
    refine zgo hC0 14 1 rfl ?_
    refine And.intro (fun (c1 : ¬ zWo v c (nI i) = zST v (nI i) n) => ?_) (fun (c1 : zWo v c (nI i) = zST v (nI i) n) => ?_)
    · refine zgo hC0 21 2 rfl ?_
      exact ih _ _ (by rw [zor, decide_eq_false c1]) (nI_add i 1)
    · refine zgo hC0 15 8 rfl ?_
      exact ih _ _ (by rw [zor, decide_eq_true c1]; rfl) (nI_add i 1)
def iWL (v : CV) (c : Int32) (j : Nat) : Bool := iF v j && decide (zWo v c (v 3 j) = v 4 j)
set_option maxHeartbeats 2000000 in
set_option maxRecDepth 20000 in
theorem mX0_lawsAsWishedBy (v : CV) (c : Int32) (n : Nat) (hm : WM v n) : ZM yX0_lawsAsWishedBy cX0_lawsAsWishedBy 4 (some .int) 2 42 [.ref 0, .int c] (hC v) (some (.int (nI (cnt (iWL v c) n)))) (hC v) := by
  refine zm_of 0 qX0_lawsAsWishedBy rfl rfl kX0_lawsAsWishedBy rfl (Nat.le_of_ble_eq_true rfl) (fun C hC0 => ?_)
  refine zgo hC0 0 4 rfl ?_
  refine zloop n (fun i => ∀ a x : Int32, a = nI (cnt (iWL v c) i) → x = nI i → C 4 [some (.ref 0), some (.int c), some (.int a), some (.int x)] [] (hC v)) ?_ ?_ _ _ rfl rfl
  · rintro a x rfl rfl
    refine zgo hC0 4 4 rfl ?_
    refine And.intro (fun _ => ?_) (fun c => absurd (zge_rf hm) c)
    refine zgo hC0 27 2 rfl ?_
    exact zret_i rfl
  · rintro i hi ih a x rfl rfl
    refine zgo hC0 4 4 rfl ?_
    refine And.intro (fun c => absurd c (zge_no hm hi)) (fun _ => ?_)
    have e := zcl hm.2 hi
    refine zgo hC0 8 2 rfl ?_
    refine zcallV hC0 (mX0_inForce v (nI i) n hm) vX0_inForce lk0_59 (by decide +kernel : decode cX0_lawsAsWishedBy 14 = .ok (.invokevirtual 59, 3)) rfl rfl rfl (Nat.le_of_ble_eq_true rfl) (Nat.le_of_ble_eq_true rfl) (Nat.le_of_ble_eq_true rfl) ?_
    refine zgo hC0 11 1 rfl ?_
    refine And.intro (fun c1 => ?_) (fun c1 => ?_)
    · refine zgo hC0 25 2 rfl ?_
      exact ih _ _ (cnt_f (zand_f1 ((zF_at hm hi).symm.trans (b2i_f c1)))) (nI_add i 1)
    · refine zgo hC0 12 6 rfl ?_
      refine And.intro (zin80 hm.2 hi) ?_
      refine zcallV hC0 (mX0_wishOf v c (v 3 (nI i).toNatClampNeg)) vX0_wishOf lk0_83 (by decide +kernel : decode cX0_lawsAsWishedBy 28 = .ok (.invokevirtual 83, 3)) rfl rfl rfl (Nat.le_of_ble_eq_true rfl) (Nat.le_of_ble_eq_true rfl) (Nat.le_of_ble_eq_true rfl) ?_
      refine zgo hC0 19 5 rfl ?_
      refine And.intro (zin80 hm.2 hi) (And.intro (fun (c2 : ¬ zWo v c (v 3 (nI i).toNatClampNeg) = v 4 (nI i).toNatClampNeg) => ?_) (fun (c2 : zWo v c (v 3 (nI i).toNatClampNeg) = v 4 (nI i).toNatClampNeg) => ?_))
      · refine zgo hC0 25 2 rfl ?_
        rw [e] at c2
        exact ih _ _ (cnt_f (zand_f2 (decide_eq_false c2))) (nI_add i 1)
      · refine zgo hC0 24 3 rfl ?_
        rw [e] at c2
        exact ih _ _ (cnt_t (zand_t ((zF_at hm hi).symm.trans (b2i_t c1)) (decide_eq_true c2))) (nI_add i 1)
def zJ (v : CV) (c t s : Int32) : Int32 := if zWo v c t = nI 3 then nI 0 else if zWo v c t = s then nI 1 else -(nI 1)
set_option maxHeartbeats 2000000 in
set_option maxRecDepth 20000 in
theorem mX0_joyAt (v : CV) (c t s : Int32) : ZM yX0_joyAt cX0_joyAt 5 (some .int) 1 23 [.ref 0, .int c, .int t, .int s] (hC v) (some (.int (zJ v c t s))) (hC v) := by
  refine zm_of 0 qX0_joyAt rfl rfl kX0_joyAt rfl (Nat.le_of_ble_eq_true rfl) (fun C hC0 => ?_)
  refine zgo hC0 0 3 rfl ?_
  refine zcallV hC0 (mX0_wishOf v c t) vX0_wishOf lk0_83 (by decide +kernel : decode cX0_joyAt 3 = .ok (.invokevirtual 83, 3)) rfl rfl rfl (Nat.le_of_ble_eq_true rfl) (Nat.le_of_ble_eq_true rfl) (Nat.le_of_ble_eq_true rfl) ?_
  refine zgo hC0 4 4 rfl ?_
  refine And.intro (fun (c1 : ¬ zWo v c t = nI 3) => ?_) (fun (c1 : zWo v c t = nI 3) => ?_)
  · refine zgo hC0 10 3 rfl ?_
    refine And.intro (fun (c2 : ¬ zWo v c t = s) => ?_) (fun (c2 : zWo v c t = s) => ?_)
    · refine zgo hC0 15 2 rfl ?_
      exact zret_i (by rw [zJ, if_neg c1, if_neg c2]; rfl)
    · refine zgo hC0 13 2 rfl ?_
      refine zgo hC0 16 1 rfl ?_
      exact zret_i (by rw [zJ, if_neg c1, if_pos c2]; rfl)
  · refine zgo hC0 8 2 rfl ?_
    exact zret_i (by rw [zJ, if_pos c1]; rfl)
/-- the joy of a councillor at a bill that would repeal the law x -/
def zjy (v : CV) (t s x : Int32) (c : Nat) : Int32 := match zL v x with
  | true => zJ v (nI c) t s - zJ v (nI c) (v 3 x.toNatClampNeg) (v 4 x.toNatClampNeg)
  | false => zJ v (nI c) t s
def zvt (j : Int32) (c : Nat) : Bool := decide (0 < j) || (decide (j = 0) && Nat.beq (c % 2) 0)
def zVp (v : CV) (t s x : Int32) (c : Nat) : Bool := zvt (zjy v t s x c) c
def zVT (v : CV) (t s x : Int32) : Int32 := zor (zVp v t s x) 5
theorem zodd {i : Nat} (h : i < 5) : (nI i - nI i / nI 2 * nI 2 = 0) ↔ Nat.beq (i % 2) 0 = true := by
  match i, h with
  | 0, _ => decide
  | 1, _ => decide
  | 2, _ => decide
  | 3, _ => decide
  | 4, _ => decide
  | n + 5, h => exact absurd h (by omega)
set_option maxHeartbeats 2000000 in
set_option maxRecDepth 20000 in
theorem mX0_votersFor (v : CV) (t s x : Int32) (n : Nat) (hm : WM v n) : ZM yX0_votersFor cX0_votersFor 7 (some .int) 2 47 [.ref 0, .int t, .int s, .int x] (hC v) (some (.int (zVT v t s x))) (hC v) := by
  refine zm_of 0 qX0_votersFor rfl rfl kX0_votersFor rfl (Nat.le_of_ble_eq_true rfl) (fun C hC0 => ?_)
  refine zgo hC0 0 4 rfl ?_
  refine zloop 5 (fun i => ∀ (a y : Int32) (o : Option Value), a = zor (zVp v t s x) i → y = nI i → C 6 [some (.ref 0), some (.int t), some (.int s), some (.int x), some (.int a), some (.int y), o] [] (hC v)) ?_ ?_ _ _ _ rfl rfl
  · rintro a y o rfl rfl
    refine zgo hC0 4 3 rfl ?_
    refine And.intro (fun _ => ?_) (fun c => absurd (nI_le (Nat.le_refl 5) (by decide)) c)
    refine zgo hC0 47 2 rfl ?_
    exact zret_i rfl
  · rintro i hi ih a y o rfl rfl
    refine zgo hC0 4 3 rfl ?_
    refine And.intro (fun c => absurd c (nI_ge hi (by decide))) (fun _ => ?_)
    refine zgo hC0 7 4 rfl ?_
    refine zcallV hC0 (mX0_joyAt v (nI i) t s) vX0_joyAt lk0_86 (by decide +kernel : decode cX0_votersFor 17 = .ok (.invokevirtual 86, 3)) rfl rfl rfl (Nat.le_of_ble_eq_true rfl) (Nat.le_of_ble_eq_true rfl) (Nat.le_of_ble_eq_true rfl) ?_
    refine zgo hC0 12 3 rfl ?_
    refine zcallV hC0 (mX0_isLaw v x) vX0_isLaw lk0_55 (by decide +kernel : decode cX0_votersFor 24 = .ok (.invokevirtual 55, 3)) rfl rfl rfl (Nat.le_of_ble_eq_true rfl) (Nat.le_of_ble_eq_true rfl) (Nat.le_of_ble_eq_true rfl) ?_
    have fin : ∀ j : Int32, j = zjy v t s x i → C 53 [some (.ref 0), some (.int t), some (.int s), some (.int x), some (.int (zor (zVp v t s x) i)), some (.int (nI i)), some (.int j)] [] (hC v) := by
      rintro j hj
      have no : zVp v t s x i = false → C 79 [some (.ref 0), some (.int t), some (.int s), some (.int x), some (.int (zor (zVp v t s x) i)), some (.int (nI i)), some (.int j)] [] (hC v) := by
        intro hq
        refine zgo hC0 45 2 rfl ?_
        exact ih _ _ _ (by rw [zor, hq]) (nI_add i 1)
      have yes : zVp v t s x i = true → C 70 [some (.ref 0), some (.int t), some (.int s), some (.int x), some (.int (zor (zVp v t s x) i)), some (.int (nI i)), some (.int j)] [] (hC v) := by
        intro hq
        refine zgo hC0 39 8 rfl ?_
        exact ih _ _ _ (by rw [zor, hq]; rfl) (nI_add i 1)
      have hv : zVp v t s x i = zvt j i := by rw [zVp, hj]
      refine zgo hC0 31 2 rfl ?_
      refine And.intro (fun (c1 : 0 < j) => yes (by rw [hv, zvt, decide_eq_true c1]; rfl)) (fun (c1 : ¬ 0 < j) => ?_)
      refine zgo hC0 33 2 rfl ?_
      refine And.intro (fun (c2 : ¬ j = 0) => no (by rw [hv, zvt, decide_eq_false c1, decide_eq_false c2]; rfl)) (fun (c2 : j = 0) => ?_)
      refine zgo hC0 35 4 rfl ?_
      refine And.intro (by decide) (And.intro (fun (c3 : ¬ nI i - nI i / nI 2 * nI 2 = 0) => no ?_) (fun (c3 : nI i - nI i / nI 2 * nI 2 = 0) => ?_))
      · rw [hv, zvt, decide_eq_false c1, decide_eq_true c2]
        rw [Bool.eq_false_iff.mpr (mt (zodd hi).mpr c3)]
        rfl
      · refine yes ?_
        rw [hv, zvt, decide_eq_false c1, decide_eq_true c2, (zodd hi).mp c3]
        rfl
    refine zgo hC0 16 1 rfl ?_
    refine And.intro (fun c => ?_) (fun c => ?_)
    · exact fin _ (by rw [zjy, b2i_f c])
    · refine zgo hC0 17 11 rfl ?_
      refine And.intro (zL_in hm (b2i_t c)) (And.intro (zL_in hm (b2i_t c)) ?_)
      refine zcallV hC0 (mX0_joyAt v (nI i) (v 3 x.toNatClampNeg) (v 4 x.toNatClampNeg)) vX0_joyAt lk0_86 (by decide +kernel : decode cX0_votersFor 47 = .ok (.invokevirtual 86, 3)) rfl rfl rfl (Nat.le_of_ble_eq_true rfl) (Nat.le_of_ble_eq_true rfl) (Nat.le_of_ble_eq_true rfl) ?_
      refine zgo hC0 29 2 rfl ?_
      exact fin _ (by rw [zjy, b2i_t c])
