theorem zin3 {k : Nat} (h : k < 3 := by decide) : vp_in (nI k) 3 := vp_in_nI h (by decide)
/-! Integer.bitCount; RepealedLaws.Code: reasons, the best repeal, changes -/
def zBC (x : Int32) : Int32 :=
  let a := x - (zushr x (nI 1) &&& nI 1431655765)
  let b := (a &&& nI 858993459) + (zushr a (nI 2) &&& nI 858993459)
  let c := (b + zushr b (nI 4)) &&& nI 252645135
  let d := c + zushr c (nI 8)
  (d + zushr d (nI 16)) &&& nI 63
set_option maxHeartbeats 2000000 in
set_option maxRecDepth 20000 in
theorem mJ6 (x : Int32) (h : List ZC) : ZM yJ6_bitCount_0f7a4 cJ6_bitCount_0f7a4 1 (some .int) 0 0 [.int x] h (some (.int (zBC x))) h := by
  refine zm_of 6 qJ6 rfl rfl kJ6 rfl (Nat.le_of_ble_eq_true rfl) (fun C hC0 => ?_)
  refine zgo hC0 0 45 rfl ?_
  exact zret_i rfl
theorem zBC5 (p : Nat → Bool) : zBC (zor p 5) = nI (cnt p 5) := by
  have key : ∀ a b c d e : Bool, ∀ q : Nat → Bool, q 0 = a → q 1 = b → q 2 = c → q 3 = d → q 4 = e → zBC (zor q 5) = nI (cnt q 5) := by
    intro a b c d e q h0 h1 h2 h3 h4
    simp only [zor, cnt, h0, h1, h2, h3, h4]
    clear h0 h1 h2 h3 h4
    cases a <;> cases b <;> cases c <;> cases d <;> cases e <;> decide +kernel
  exact key _ _ _ _ _ p rfl rfl rfl rfl rfl
/-- the votes -/
def zVC (v : CV) (t s x : Int32) : Int32 := nI (cnt (zVp v t s x) 5)
theorem zBCv (v : CV) (t s x : Int32) : zBC (zVT v t s x) = zVC v t s x := zBC5 _
def pAN (v : CV) (l t s x : Int32) (j : Nat) : Bool := decide (¬ nI j = x) && (iF v j && iLK v l t s j)
def zAN (v : CV) (l t s x : Int32) (n : Nat) : Bool := zany (pAN v l t s x) n
set_option maxHeartbeats 2000000 in
set_option maxRecDepth 20000 in
theorem mX0_isLikeAnotherInForce (v : CV) (l t s x : Int32) (n : Nat) (hm : WM v n) : ZM yX0_isLikeAnotherInForce cX0_isLikeAnotherInForce 6 (some .boolean) 2 45 [.ref 0, .int l, .int t, .int s, .int x] (hC v) (some (.int (b2i (zAN v l t s x n)))) (hC v) := by
  refine zm_of 0 qX0_isLikeAnotherInForce rfl rfl kX0_isLikeAnotherInForce rfl (Nat.le_of_ble_eq_true rfl) (fun C hC0 => ?_)
  refine zgo hC0 0 2 rfl ?_
  refine zloop n (fun i => ∀ y : Int32, zany (pAN v l t s x) i = false → y = nI i → C 3 [some (.ref 0), some (.int l), some (.int t), some (.int s), some (.int x), some (.int y)] [] (hC v)) ?_ ?_ _ rfl rfl
  · rintro y ha rfl
    refine zgo hC0 2 4 rfl ?_
    refine And.intro (fun _ => ?_) (fun c => absurd (zge_rf hm) c)
    refine zgo hC0 24 2 rfl ?_
    exact zret_b (zb0 ha)
  · rintro i hi ih y ha rfl
    have no : pAN v l t s x i = false → C 42 [some (.ref 0), some (.int l), some (.int t), some (.int s), some (.int x), some (.int (nI i))] [] (hC v) := by
      intro hq
      refine zgo hC0 22 2 rfl ?_
      exact ih _ (zany_f ha hq) (nI_add i 1)
    refine zgo hC0 2 4 rfl ?_
    refine And.intro (fun c => absurd c (zge_no hm hi)) (fun _ => ?_)
    refine zgo hC0 6 3 rfl ?_
    refine And.intro (fun (c : nI i = x) => no (zand_f1 (decide_eq_false (fun q => q c)))) (fun (c : ¬ nI i = x) => ?_)
    refine zgo hC0 9 2 rfl ?_
    refine zcallV hC0 (mX0_inForce v (nI i) n hm) vX0_inForce lk0_59 (by decide +kernel : decode cX0_isLikeAnotherInForce 22 = .ok (.invokevirtual 59, 3)) rfl rfl rfl (Nat.le_of_ble_eq_true rfl) (Nat.le_of_ble_eq_true rfl) (Nat.le_of_ble_eq_true rfl) ?_
    refine zgo hC0 12 1 rfl ?_
    refine And.intro (fun c1 => no (zand_f2 (zand_f1 ((zF_at hm hi).symm.trans (b2i_f c1))))) (fun c1 => ?_)
    refine zgo hC0 13 5 rfl ?_
    refine zcallV hC0 (mX0_isLike v (nI i) l t s n hm) vX0_isLike lk0_90 (by decide +kernel : decode cX0_isLikeAnotherInForce 34 = .ok (.invokevirtual 90, 3)) rfl rfl rfl (Nat.le_of_ble_eq_true rfl) (Nat.le_of_ble_eq_true rfl) (Nat.le_of_ble_eq_true rfl) ?_
    refine zgo hC0 19 1 rfl ?_
    refine And.intro (fun c2 => no (zand_f2 (zand_f2 ((zLK_at hm hi).symm.trans (b2i_f c2))))) (fun c2 => ?_)
    refine zgo hC0 20 2 rfl ?_
    exact zret_b (zb1 (zany_t (zand_t (decide_eq_true c) (zand_t ((zF_at hm hi).symm.trans (b2i_t c1)) ((zLK_at hm hi).symm.trans (b2i_t c2)))) hi))
def pRL (v : CV) (l t s : Int32) (j : Nat) : Bool := !iF v j && (iLK v l t s j && decide (¬ v 0 2 ≤ v 10 0 - v 6 j))
def zRL (v : CV) (l t s : Int32) (n : Nat) : Bool := zany (pRL v l t s) n
set_option maxHeartbeats 2000000 in
set_option maxRecDepth 20000 in
theorem mX0_wasRepealedLately (v : CV) (l t s : Int32) (n : Nat) (hm : WM v n) : ZM yX0_wasRepealedLately cX0_wasRepealedLately 5 (some .boolean) 2 45 [.ref 0, .int l, .int t, .int s] (hC v) (some (.int (b2i (zRL v l t s n)))) (hC v) := by
  refine zm_of 0 qX0_wasRepealedLately rfl rfl kX0_wasRepealedLately rfl (Nat.le_of_ble_eq_true rfl) (fun C hC0 => ?_)
  refine zgo hC0 0 2 rfl ?_
  refine zloop n (fun i => ∀ y : Int32, zany (pRL v l t s) i = false → y = nI i → C 3 [some (.ref 0), some (.int l), some (.int t), some (.int s), some (.int y)] [] (hC v)) ?_ ?_ _ rfl rfl
  · rintro y ha rfl
    refine zgo hC0 2 4 rfl ?_
    refine And.intro (fun _ => ?_) (fun c => absurd (zge_rf hm) c)
    refine zgo hC0 33 2 rfl ?_
    exact zret_b (zb0 ha)
  · rintro i hi ih y ha rfl
    have e := zcl hm.2 hi
    have no : pRL v l t s i = false → C 56 [some (.ref 0), some (.int l), some (.int t), some (.int s), some (.int (nI i))] [] (hC v) := by
      intro hq
      refine zgo hC0 31 2 rfl ?_
      exact ih _ (zany_f ha hq) (nI_add i 1)
    refine zgo hC0 2 4 rfl ?_
    refine And.intro (fun c => absurd c (zge_no hm hi)) (fun _ => ?_)
    refine zgo hC0 6 2 rfl ?_
    refine zcallV hC0 (mX0_inForce v (nI i) n hm) vX0_inForce lk0_59 (by decide +kernel : decode cX0_wasRepealedLately 15 = .ok (.invokevirtual 59, 3)) rfl rfl rfl (Nat.le_of_ble_eq_true rfl) (Nat.le_of_ble_eq_true rfl) (Nat.le_of_ble_eq_true rfl) ?_
    refine zgo hC0 9 1 rfl ?_
    refine And.intro (fun c1 => no (zand_f1 (by rw [← zF_at hm hi, b2i_t c1]; rfl))) (fun c1 => ?_)
    refine zgo hC0 10 5 rfl ?_
    refine zcallV hC0 (mX0_isLike v (nI i) l t s n hm) vX0_isLike lk0_90 (by decide +kernel : decode cX0_wasRepealedLately 27 = .ok (.invokevirtual 90, 3)) rfl rfl rfl (Nat.le_of_ble_eq_true rfl) (Nat.le_of_ble_eq_true rfl) (Nat.le_of_ble_eq_true rfl) ?_
    refine zgo hC0 16 1 rfl ?_
    refine And.intro (fun c2 => no (zand_f2 (zand_f1 ((zLK_at hm hi).symm.trans (b2i_f c2))))) (fun c2 => ?_)
    refine zgo hC0 17 12 rfl ?_
    refine And.intro (zin80 hm.2 hi) (And.intro zin3 (And.intro (fun (c3 : v 0 2 ≤ v 10 0 - v 6 (nI i).toNatClampNeg) => no ?_) (fun (c3 : ¬ v 0 2 ≤ v 10 0 - v 6 (nI i).toNatClampNeg) => ?_)))
    · rw [e] at c3
      exact zand_f2 (zand_f2 (decide_eq_false (fun q => q c3)))
    · rw [e] at c3
      refine zgo hC0 29 2 rfl ?_
      exact zret_b (zb1 (zany_t (zand_t (by rw [← zF_at hm hi, b2i_f c1]; rfl) (zand_t ((zLK_at hm hi).symm.trans (b2i_t c2)) (decide_eq_true c3))) hi))
def pHL (v : CV) (l : Int32) (j : Nat) : Bool := iF v j && decide (v 2 j = l)
def zHL (v : CV) (l : Int32) (n : Nat) : Bool := zany (pHL v l) n
set_option maxHeartbeats 2000000 in
set_option maxRecDepth 20000 in
theorem mX0_hasInForceOfLength (v : CV) (l : Int32) (n : Nat) (hm : WM v n) : ZM yX0_hasInForceOfLength cX0_hasInForceOfLength 3 (some .boolean) 2 42 [.ref 0, .int l] (hC v) (some (.int (b2i (zHL v l n)))) (hC v) := by
  refine zm_of 0 qX0_hasInForceOfLength rfl rfl kX0_hasInForceOfLength rfl (Nat.le_of_ble_eq_true rfl) (fun C hC0 => ?_)
  refine zgo hC0 0 2 rfl ?_
  refine zloop n (fun i => ∀ y : Int32, zany (pHL v l) i = false → y = nI i → C 2 [some (.ref 0), some (.int l), some (.int y)] [] (hC v)) ?_ ?_ _ rfl rfl
  · rintro y ha rfl
    refine zgo hC0 2 4 rfl ?_
    refine And.intro (fun _ => ?_) (fun c => absurd (zge_rf hm) c)
    refine zgo hC0 20 2 rfl ?_
    exact zret_b (zb0 ha)
  · rintro i hi ih y ha rfl
    have e := zcl hm.2 hi
    have no : pHL v l i = false → C 30 [some (.ref 0), some (.int l), some (.int (nI i))] [] (hC v) := by
      intro hq
      refine zgo hC0 18 2 rfl ?_
      exact ih _ (zany_f ha hq) (nI_add i 1)
    refine zgo hC0 2 4 rfl ?_
    refine And.intro (fun c => absurd c (zge_no hm hi)) (fun _ => ?_)
    refine zgo hC0 6 2 rfl ?_
    refine zcallV hC0 (mX0_inForce v (nI i) n hm) vX0_inForce lk0_59 (by decide +kernel : decode cX0_hasInForceOfLength 12 = .ok (.invokevirtual 59, 3)) rfl rfl rfl (Nat.le_of_ble_eq_true rfl) (Nat.le_of_ble_eq_true rfl) (Nat.le_of_ble_eq_true rfl) ?_
    refine zgo hC0 9 1 rfl ?_
    refine And.intro (fun c1 => no (zand_f1 ((zF_at hm hi).symm.trans (b2i_f c1)))) (fun c1 => ?_)
    refine zgo hC0 10 6 rfl ?_
    refine And.intro (zin80 hm.2 hi) (And.intro (fun (c2 : ¬ v 2 (nI i).toNatClampNeg = l) => no ?_) (fun (c2 : v 2 (nI i).toNatClampNeg = l) => ?_))
    · rw [e] at c2
      exact zand_f2 (decide_eq_false c2)
    · rw [e] at c2
      refine zgo hC0 16 2 rfl ?_
      exact zret_b (zb1 (zany_t (zand_t ((zF_at hm hi).symm.trans (b2i_t c1)) (decide_eq_true c2)) hi))
/-- too few votes: 7, else 0 -/
def zR7 (v : CV) (t s x : Int32) : Int32 := if v 0 0 ≤ zVC v t s x then nI 0 else nI 7
def zRA (v : CV) (l t s x : Int32) (n : Nat) : Int32 := match zAN v l t s x n with
  | true => nI 1
  | false => match zLK v x l t s with
    | true => nI 2
    | false => match zRL v l t s n with
      | true => nI 3
      | false => match zL v x with
        | true => match zF v x && decide (v 2 x.toNatClampNeg = l) with
          | true => zR7 v t s x
          | false => nI 4
        | false => match zHL v l n with
          | true => nI 5
          | false => if v 0 1 ≤ nI (cnt (iF v) n) then nI 6 else zR7 v t s x
set_option maxHeartbeats 2000000 in
set_option maxRecDepth 20000 in
theorem mX0_reasonAgainst (v : CV) (l t s x : Int32) (n : Nat) (hm : WM v n) : ZM yX0_reasonAgainst cX0_reasonAgainst 6 (some .int) 3 73 [.ref 0, .int l, .int t, .int s, .int x] (hC v) (some (.int (zRA v l t s x n))) (hC v) := by
  refine zm_of 0 qX0_reasonAgainst rfl rfl kX0_reasonAgainst rfl (Nat.le_of_ble_eq_true rfl) (fun C hC0 => ?_)
  have seven : (zRA v l t s x n = zR7 v t s x) → C 97 [some (.ref 0), some (.int l), some (.int t), some (.int s), some (.int x), none] [] (hC v) := by
    intro hq
    refine zgo hC0 57 4 rfl ?_
    refine zcallV hC0 (mX0_votersFor v t s x n hm) vX0_votersFor lk0_108 (by decide +kernel : decode cX0_reasonAgainst 102 = .ok (.invokevirtual 108, 3)) rfl rfl rfl (Nat.le_of_ble_eq_true rfl) (Nat.le_of_ble_eq_true rfl) (Nat.le_of_ble_eq_true rfl) ?_
    refine zcallS hC0 (mJ6 (zVT v t s x) (hC v)) vJ6 lk0_111 (by decide +kernel : decode cX0_reasonAgainst 105 = .ok (.invokestatic 111, 3)) rfl rfl (Nat.le_of_ble_eq_true rfl) (Nat.le_of_ble_eq_true rfl) (Nat.le_of_ble_eq_true rfl) ?_
    show C 108 _ [.int (zBC (zVT v t s x))] _
    rw [zBCv]
    refine zgo hC0 63 7 rfl ?_
    refine And.intro zin3 (And.intro (fun (c : v 0 0 ≤ zVC v t s x) => ?_) (fun (c : ¬ v 0 0 ≤ zVC v t s x) => ?_))
    · refine zgo hC0 72 2 rfl ?_
      exact zret_i (by rw [hq, zR7, if_pos c]; rfl)
    · refine zgo hC0 70 2 rfl ?_
      refine zgo hC0 73 1 rfl ?_
      exact zret_i (by rw [hq, zR7, if_neg c]; rfl)
  refine zgo hC0 0 5 rfl ?_
  refine zcallV hC0 (mX0_isLikeAnotherInForce v l t s x n hm) vX0_isLikeAnotherInForce lk0_94 (by decide +kernel : decode cX0_reasonAgainst 6 = .ok (.invokevirtual 94, 3)) rfl rfl rfl (Nat.le_of_ble_eq_true rfl) (Nat.le_of_ble_eq_true rfl) (Nat.le_of_ble_eq_true rfl) ?_
  refine zgo hC0 6 1 rfl ?_
  refine And.intro (fun c1 => ?_) (fun c1 => ?_)
  rotate_left
  · refine zgo hC0 7 2 rfl ?_
    exact zret_i (by rw [zRA, b2i_t c1]; rfl)
  refine zgo hC0 9 5 rfl ?_
  refine zcallV hC0 (mX0_isLike v x l t s n hm) vX0_isLike lk0_90 (by decide +kernel : decode cX0_reasonAgainst 20 = .ok (.invokevirtual 90, 3)) rfl rfl rfl (Nat.le_of_ble_eq_true rfl) (Nat.le_of_ble_eq_true rfl) (Nat.le_of_ble_eq_true rfl) ?_
  refine zgo hC0 15 1 rfl ?_
  refine And.intro (fun c2 => ?_) (fun c2 => ?_)
  rotate_left
  · refine zgo hC0 16 2 rfl ?_
    exact zret_i (by rw [zRA, b2i_f c1, b2i_t c2]; rfl)
  refine zgo hC0 18 4 rfl ?_
  refine zcallV hC0 (mX0_wasRepealedLately v l t s n hm) vX0_wasRepealedLately lk0_97 (by decide +kernel : decode cX0_reasonAgainst 32 = .ok (.invokevirtual 97, 3)) rfl rfl rfl (Nat.le_of_ble_eq_true rfl) (Nat.le_of_ble_eq_true rfl) (Nat.le_of_ble_eq_true rfl) ?_
  refine zgo hC0 23 1 rfl ?_
  refine And.intro (fun c3 => ?_) (fun c3 => ?_)
  rotate_left
  · refine zgo hC0 24 2 rfl ?_
    exact zret_i (by rw [zRA, b2i_f c1, b2i_f c2, b2i_t c3]; rfl)
  refine zgo hC0 26 2 rfl ?_
  refine zcallV hC0 (mX0_isLaw v x) vX0_isLaw lk0_55 (by decide +kernel : decode cX0_reasonAgainst 43 = .ok (.invokevirtual 55, 3)) rfl rfl rfl (Nat.le_of_ble_eq_true rfl) (Nat.le_of_ble_eq_true rfl) (Nat.le_of_ble_eq_true rfl) ?_
  refine zgo hC0 29 1 rfl ?_
  refine And.intro (fun c4 => ?_) (fun c4 => ?_)
  · refine zgo hC0 42 2 rfl ?_
    refine zcallV hC0 (mX0_hasInForceOfLength v l n hm) vX0_hasInForceOfLength lk0_101 (by decide +kernel : decode cX0_reasonAgainst 73 = .ok (.invokevirtual 101, 3)) rfl rfl rfl (Nat.le_of_ble_eq_true rfl) (Nat.le_of_ble_eq_true rfl) (Nat.le_of_ble_eq_true rfl) ?_
    refine zgo hC0 45 1 rfl ?_
    refine And.intro (fun c5 => ?_) (fun c5 => ?_)
    rotate_left
    · refine zgo hC0 46 2 rfl ?_
      exact zret_i (by rw [zRA, b2i_f c1, b2i_f c2, b2i_f c3, b2i_f c4, b2i_t c5]; rfl)
    refine zgo hC0 48 1 rfl ?_
    refine zcallV hC0 (mX0_lawsInForce v n hm) vX0_lawsInForce lk0_104 (by decide +kernel : decode cX0_reasonAgainst 82 = .ok (.invokevirtual 104, 3)) rfl rfl rfl (Nat.le_of_ble_eq_true rfl) (Nat.le_of_ble_eq_true rfl) (Nat.le_of_ble_eq_true rfl) ?_
    refine zgo hC0 50 5 rfl ?_
    refine And.intro zin3 (And.intro (fun (c6 : nI (cnt (iF v) n) < v 0 1) => ?_) (fun (c6 : ¬ nI (cnt (iF v) n) < v 0 1) => ?_))
    · refine seven ?_
      rw [zRA, b2i_f c1, b2i_f c2, b2i_f c3, b2i_f c4, b2i_f c5]
      exact if_neg (Int32.not_le.mpr c6)
    · refine zgo hC0 55 2 rfl ?_
      refine zret_i ?_
      rw [zRA, b2i_f c1, b2i_f c2, b2i_f c3, b2i_f c4, b2i_f c5]
      exact if_pos (Int32.not_lt.mp c6)
  · refine zgo hC0 30 2 rfl ?_
    refine zcallV hC0 (mX0_inForce v x n hm) vX0_inForce lk0_59 (by decide +kernel : decode cX0_reasonAgainst 52 = .ok (.invokevirtual 59, 3)) rfl rfl rfl (Nat.le_of_ble_eq_true rfl) (Nat.le_of_ble_eq_true rfl) (Nat.le_of_ble_eq_true rfl) ?_
    refine zgo hC0 33 1 rfl ?_
    refine And.intro (fun c5 => ?_) (fun c5 => ?_)
    · refine zgo hC0 40 2 rfl ?_
      exact zret_i (by rw [zRA, b2i_f c1, b2i_f c2, b2i_f c3, b2i_t c4, b2i_f c5]; rfl)
    · refine zgo hC0 34 6 rfl ?_
      refine And.intro (zL_in hm (b2i_t c4)) (And.intro (fun (c6 : v 2 x.toNatClampNeg = l) => ?_) (fun (c6 : ¬ v 2 x.toNatClampNeg = l) => ?_))
      · refine seven ?_
        rw [zRA, b2i_f c1, b2i_f c2, b2i_f c3, b2i_t c4, b2i_t c5, decide_eq_true c6]
        rfl
      · refine zgo hC0 40 2 rfl ?_
        exact zret_i (by rw [zRA, b2i_f c1, b2i_f c2, b2i_f c3, b2i_t c4, b2i_t c5, decide_eq_false c6]; rfl)
/-- the law best repealed, and its votes -/
def zbr2 (v : CV) (l t s : Int32) : Nat → Int32 × Int32
  | 0 => (-(nI 6), -(nI 1))
  | j + 1 => if pHL v l j = true ∧ ¬ zVC v t s (nI j) ≤ (zbr2 v l t s j).2 then (nI j, zVC v t s (nI j)) else zbr2 v l t s j
def zBR (v : CV) (l t s : Int32) (n : Nat) : Int32 := (zbr2 v l t s n).1
set_option maxHeartbeats 2000000 in
set_option maxRecDepth 20000 in
theorem mX0_bestRepealFor (v : CV) (l t s : Int32) (n : Nat) (hm : WM v n) : ZM yX0_bestRepealFor cX0_bestRepealFor 8 (some .int) 3 73 [.ref 0, .int l, .int t, .int s] (hC v) (some (.int (zBR v l t s n))) (hC v) := by
  refine zm_of 0 qX0_bestRepealFor rfl rfl kX0_bestRepealFor rfl (Nat.le_of_ble_eq_true rfl) (fun C hC0 => ?_)
  refine zgo hC0 0 6 rfl ?_
  refine zloop n (fun i => ∀ (a b y : Int32) (o : Option Value), a = (zbr2 v l t s i).1 → b = (zbr2 v l t s i).2 → y = nI i → C 10 [some (.ref 0), some (.int l), some (.int t), some (.int s), some (.int a), some (.int b), some (.int y), o] [] (hC v)) ?_ ?_ _ _ _ _ rfl rfl rfl
  · rintro a b y o rfl rfl rfl
    refine zgo hC0 6 4 rfl ?_
    refine And.intro (fun _ => ?_) (fun c => absurd (zge_rf hm) c)
    refine zgo hC0 36 2 rfl ?_
    exact zret_i rfl
  · rintro i hi ih a b y o rfl rfl rfl
    have e := zcl hm.2 hi
    have no : ∀ o : Option Value, zbr2 v l t s (i + 1) = zbr2 v l t s i → C 67 [some (.ref 0), some (.int l), some (.int t), some (.int s), some (.int (zbr2 v l t s i).1), some (.int (zbr2 v l t s i).2), some (.int (nI i)), o] [] (hC v) := by
      intro o hq
      refine zgo hC0 34 2 rfl ?_
      exact ih _ _ _ _ (by rw [hq]) (by rw [hq]) (nI_add i 1)
    refine zgo hC0 6 4 rfl ?_
    refine And.intro (fun c => absurd c (zge_no hm hi)) (fun _ => ?_)
    refine zgo hC0 10 2 rfl ?_
    refine zcallV hC0 (mX0_inForce v (nI i) n hm) vX0_inForce lk0_59 (by decide +kernel : decode cX0_bestRepealFor 22 = .ok (.invokevirtual 59, 3)) rfl rfl rfl (Nat.le_of_ble_eq_true rfl) (Nat.le_of_ble_eq_true rfl) (Nat.le_of_ble_eq_true rfl) ?_
    refine zgo hC0 13 1 rfl ?_
    refine And.intro (fun c1 => no _ ?_) (fun c1 => ?_)
    · rw [zbr2, if_neg]
      rintro ⟨q, -⟩
      rw [pHL, ← zF_at hm hi, b2i_f c1] at q
      cases q
    · refine zgo hC0 14 6 rfl ?_
      refine And.intro (zin80 hm.2 hi) (And.intro (fun (c2 : ¬ v 2 (nI i).toNatClampNeg = l) => no _ ?_) (fun (c2 : v 2 (nI i).toNatClampNeg = l) => ?_))
      · rw [e] at c2
        rw [zbr2, if_neg]
        rintro ⟨q, -⟩
        rw [pHL, decide_eq_false c2] at q
        simp at q
      · rw [e] at c2
        have hp : pHL v l i = true := zand_t ((zF_at hm hi).symm.trans (b2i_t c1)) (decide_eq_true c2)
        refine zgo hC0 20 4 rfl ?_
        refine zcallV hC0 (mX0_votersFor v t s (nI i) n hm) vX0_votersFor lk0_108 (by decide +kernel : decode cX0_bestRepealFor 44 = .ok (.invokevirtual 108, 3)) rfl rfl rfl (Nat.le_of_ble_eq_true rfl) (Nat.le_of_ble_eq_true rfl) (Nat.le_of_ble_eq_true rfl) ?_
        refine zcallS hC0 (mJ6 (zVT v t s (nI i)) (hC v)) vJ6 lk0_111 (by decide +kernel : decode cX0_bestRepealFor 47 = .ok (.invokestatic 111, 3)) rfl rfl (Nat.le_of_ble_eq_true rfl) (Nat.le_of_ble_eq_true rfl) (Nat.le_of_ble_eq_true rfl) ?_
        show C 50 _ [.int (zBC (zVT v t s (nI i)))] _
        rw [zBCv]
        refine zgo hC0 26 4 rfl ?_
        refine And.intro (fun (c3 : zVC v t s (nI i) ≤ (zbr2 v l t s i).2) => no _ ?_) (fun (c3 : ¬ zVC v t s (nI i) ≤ (zbr2 v l t s i).2) => ?_)
        · rw [zbr2, if_neg]
          rintro ⟨-, q⟩
          exact q c3
        · have e2 : zbr2 v l t s (i + 1) = (nI i, zVC v t s (nI i)) := by rw [zbr2, if_pos ⟨hp, c3⟩]
          refine zgo hC0 30 6 rfl ?_
          exact ih _ _ _ _ (by rw [e2]) (by rw [e2]) (nI_add i 1)
/-- the votes of a bill that passes as it would best be put; -6 if it fails -/
def zVI (v : CV) (l t s : Int32) (n : Nat) : Int32 := if zRA v l t s (zBR v l t s n) n = nI 0 then zVC v t s (zBR v l t s n) else -(nI 6)
set_option maxHeartbeats 2000000 in
set_option maxRecDepth 20000 in
theorem mX0_votesIfPassing (v : CV) (l t s : Int32) (n : Nat) (hm : WM v n) : ZM yX0_votesIfPassing cX0_votesIfPassing 6 (some .int) 4 100 [.ref 0, .int l, .int t, .int s] (hC v) (some (.int (zVI v l t s n))) (hC v) := by
  refine zm_of 0 qX0_votesIfPassing rfl rfl kX0_votesIfPassing rfl (Nat.le_of_ble_eq_true rfl) (fun C hC0 => ?_)
  refine zgo hC0 0 4 rfl ?_
  refine zcallV hC0 (mX0_bestRepealFor v l t s n hm) vX0_bestRepealFor lk0_116 (by decide +kernel : decode cX0_votesIfPassing 4 = .ok (.invokevirtual 116, 3)) rfl rfl rfl (Nat.le_of_ble_eq_true rfl) (Nat.le_of_ble_eq_true rfl) (Nat.le_of_ble_eq_true rfl) ?_
  refine zgo hC0 5 6 rfl ?_
  refine zcallV hC0 (mX0_reasonAgainst v l t s (zBR v l t s n) n hm) vX0_reasonAgainst lk0_119 (by decide +kernel : decode cX0_votesIfPassing 15 = .ok (.invokevirtual 119, 3)) rfl rfl rfl (Nat.le_of_ble_eq_true rfl) (Nat.le_of_ble_eq_true rfl) (Nat.le_of_ble_eq_true rfl) ?_
  refine zgo hC0 12 1 rfl ?_
  refine And.intro (fun (c : ¬ zRA v l t s (zBR v l t s n) n = nI 0) => ?_) (fun (c : zRA v l t s (zBR v l t s n) n = nI 0) => ?_)
  · refine zgo hC0 15 4 rfl ?_
    refine And.intro (fun _ => ?_) (fun q => absurd rfl q)
    refine zgo hC0 26 2 rfl ?_
    exact zret_i (by rw [zVI, if_neg c]; rfl)
  · refine zgo hC0 13 2 rfl ?_
    refine zgo hC0 16 3 rfl ?_
    refine And.intro (fun q => absurd q (by decide)) (fun _ => ?_)
    refine zgo hC0 19 4 rfl ?_
    refine zcallV hC0 (mX0_votersFor v t s (zBR v l t s n) n hm) vX0_votersFor lk0_108 (by decide +kernel : decode cX0_votesIfPassing 38 = .ok (.invokevirtual 108, 3)) rfl rfl rfl (Nat.le_of_ble_eq_true rfl) (Nat.le_of_ble_eq_true rfl) (Nat.le_of_ble_eq_true rfl) ?_
    refine zcallS hC0 (mJ6 (zVT v t s (zBR v l t s n)) (hC v)) vJ6 lk0_111 (by decide +kernel : decode cX0_votesIfPassing 41 = .ok (.invokestatic 111, 3)) rfl rfl (Nat.le_of_ble_eq_true rfl) (Nat.le_of_ble_eq_true rfl) (Nat.le_of_ble_eq_true rfl) ?_
    show C 44 _ [.int (zBC (zVT v t s (zBR v l t s n)))] _
    rw [zBCv]
    refine zgo hC0 25 1 rfl ?_
    refine zgo hC0 27 1 rfl ?_
    exact zret_i (by rw [zVI, if_pos c])
/-- a law ends in this session, by the law w or by decree -/
def zEL (v : CV) (x w : Int32) : CV := match zL v x with
  | true => vup (vup v 6 (upd (v 6) x.toNatClampNeg (v 10 0))) 8 (upd (v 8) x.toNatClampNeg w)
  | false => v
set_option maxHeartbeats 2000000 in
set_option maxRecDepth 20000 in
theorem mX0_endLaw (v : CV) (x w : Int32) (n : Nat) (hm : WM v n) : ZM yX0_endLaw cX0_endLaw 3 none 1 21 [.ref 0, .int x, .int w] (hC v) none (hC (zEL v x w)) := by
  refine zm_of 0 qX0_endLaw rfl rfl kX0_endLaw rfl (Nat.le_of_ble_eq_true rfl) (fun C hC0 => ?_)
  refine zgo hC0 0 2 rfl ?_
  refine zcallV hC0 (mX0_isLaw v x) vX0_isLaw lk0_55 (by decide +kernel : decode cX0_endLaw 2 = .ok (.invokevirtual 55, 3)) rfl rfl rfl (Nat.le_of_ble_eq_true rfl) (Nat.le_of_ble_eq_true rfl) (Nat.le_of_ble_eq_true rfl) ?_
  refine zgo hC0 3 1 rfl ?_
  refine And.intro (fun c => ?_) (fun c => ?_)
  · refine zgo hC0 15 1 rfl ?_
    exact ⟨rfl, by rw [zEL, b2i_f c]⟩
  · refine zgo hC0 4 12 rfl ?_
    refine And.intro (zL_in hm (b2i_t c)) (And.intro (zL_in hm (b2i_t c)) (And.intro rfl ?_))
    rw [zEL, b2i_t c]
    rfl
/-- a bill becomes the law n -/
def zEN1 (v : CV) (l t s x : Int32) (n : Nat) : CV :=
  vup (vup (vup (vup (vup (vup (vup (vup v 2 (upd (v 2) n l)) 3 (upd (v 3) n t)) 4 (upd (v 4) n s)) 5 (upd (v 5) n (v 10 0))) 6 (upd (v 6) n (-(nI 6)))) 7 (upd (v 7) n x)) 8 (upd (v 8) n (-(nI 6)))) 9 (upd (v 9) 0 (nI (n + 1)))
def zEN (v : CV) (l t s x : Int32) (n : Nat) : CV := zEL (zEN1 v l t s x n) x (nI n)
set_option maxHeartbeats 2000000 in
set_option maxRecDepth 20000 in
theorem mX0_enact (v : CV) (l t s x : Int32) (n : Nat) (hm : WM v n) (hn : n < 80) : ZM yX0_enact cX0_enact 6 (some .int) 2 43 [.ref 0, .int l, .int t, .int s, .int x] (hC v) (some (.int (nI n))) (hC (zEN v l t s x n)) := by
  refine zm_of 0 qX0_enact rfl rfl kX0_enact rfl (Nat.le_of_ble_eq_true rfl) (fun C hC0 => ?_)
  have hf : v 9 0 < nI 80 := by rw [hm.1]; exact nI_lt hn (by decide)
  have e9 : (nI n).toNatClampNeg = n := nI_clamp (by omega)
  have hin : vp_in (nI n) 80 := vp_in_nI hn (by decide)
  refine zgo hC0 0 1 rfl ?_
  refine zcallV hC0 (mX0_isFull v) vX0_isFull lk0_123 (by decide +kernel : decode cX0_enact 1 = .ok (.invokevirtual 123, 3)) rfl rfl rfl (Nat.le_of_ble_eq_true rfl) (Nat.le_of_ble_eq_true rfl) (Nat.le_of_ble_eq_true rfl) ?_
  refine zgo hC0 2 1 rfl ?_
  refine And.intro (fun _ => ?_) (fun c => absurd (b2i_t c) (by simp [hf]))
  refine zgo hC0 5 3 rfl ?_
  show C 16 [some (.ref 0), some (.int l), some (.int t), some (.int s), some (.int x), some (.int (v 9 0))] [] (hC v)
  rw [hm.1]
  refine zgo hC0 8 45 rfl ?_
  refine And.intro hin (And.intro hin (And.intro hin (And.intro hin (And.intro hin (And.intro hin (And.intro hin ?_))))))
  show C 93 [some (.ref 0), some (.int l), some (.int t), some (.int s), some (.int x), some (.int (nI n))] [.int (nI n), .int x, .ref 0] (hC (vup (vup (vup (vup (vup (vup (vup (vup v 2 (upd (v 2) (nI n).toNatClampNeg l)) 3 (upd (v 3) (nI n).toNatClampNeg t)) 4 (upd (v 4) (nI n).toNatClampNeg s)) 5 (upd (v 5) (nI n).toNatClampNeg (v 10 0))) 6 (upd (v 6) (nI n).toNatClampNeg (-(nI 6)))) 7 (upd (v 7) (nI n).toNatClampNeg x)) 8 (upd (v 8) (nI n).toNatClampNeg (-(nI 6)))) 9 (upd (v 9) 0 (v 9 0 + nI 1))))
  rw [e9, hm.1, nI_add]
  have hm1 : WM (zEN1 v l t s x n) (n + 1) := ⟨rfl, hn⟩
  refine zcallV hC0 (mX0_endLaw (zEN1 v l t s x n) x (nI n) (n + 1) hm1) vX0_endLaw lk0_127 (by decide +kernel : decode cX0_enact 93 = .ok (.invokevirtual 127, 3)) rfl rfl rfl (Nat.le_of_ble_eq_true rfl) (Nat.le_of_ble_eq_true rfl) (Nat.le_of_ble_eq_true rfl) ?_
  refine zgo hC0 54 2 rfl ?_
  exact zret_i rfl
def sgO : List Nat := [10, 11, 12, 13, 14, 15, 16, 17, 18, 19]
set_option maxHeartbeats 2000000 in
set_option maxRecDepth 20000 in
theorem mX0_become (v w : CV) : ZM yX0_become cX0_become 2 none 1 48 [.ref 0, .ref 10] (hC v ++ (hC w).map (zrn sgO)) none (hC w ++ (hC w).map (zrn sgO)) := by
  refine zm_of 0 qX0_become rfl rfl kX0_become rfl (Nat.le_of_ble_eq_true rfl) (fun C hC0 => ?_)
  refine zgo hC0 0 7 rfl ?_
  refine zcopy hC0 lk0_39 (by decide +kernel : decode cX0_become 11 = .ok (.invokestatic 39, 3)) rfl rfl rfl (Nat.le_refl _) (Nat.le_refl _) (Nat.lt_of_succ_le (Nat.le_of_ble_eq_true rfl)) (Nat.le_of_ble_eq_true rfl) (Nat.le_of_ble_eq_true rfl) ?_
  refine zgo hC0 8 7 rfl ?_
  refine zcopy hC0 lk0_39 (by decide +kernel : decode cX0_become 26 = .ok (.invokestatic 39, 3)) rfl rfl rfl (Nat.le_refl _) (Nat.le_refl _) (Nat.lt_of_succ_le (Nat.le_of_ble_eq_true rfl)) (Nat.le_of_ble_eq_true rfl) (Nat.le_of_ble_eq_true rfl) ?_
  refine zgo hC0 16 7 rfl ?_
  refine zcopy hC0 lk0_39 (by decide +kernel : decode cX0_become 41 = .ok (.invokestatic 39, 3)) rfl rfl rfl (Nat.le_refl _) (Nat.le_refl _) (Nat.lt_of_succ_le (Nat.le_of_ble_eq_true rfl)) (Nat.le_of_ble_eq_true rfl) (Nat.le_of_ble_eq_true rfl) ?_
  refine zgo hC0 24 7 rfl ?_
  refine zcopy hC0 lk0_39 (by decide +kernel : decode cX0_become 56 = .ok (.invokestatic 39, 3)) rfl rfl rfl (Nat.le_refl _) (Nat.le_refl _) (Nat.lt_of_succ_le (Nat.le_of_ble_eq_true rfl)) (Nat.le_of_ble_eq_true rfl) (Nat.le_of_ble_eq_true rfl) ?_
  refine zgo hC0 32 7 rfl ?_
  refine zcopy hC0 lk0_39 (by decide +kernel : decode cX0_become 71 = .ok (.invokestatic 39, 3)) rfl rfl rfl (Nat.le_refl _) (Nat.le_refl _) (Nat.lt_of_succ_le (Nat.le_of_ble_eq_true rfl)) (Nat.le_of_ble_eq_true rfl) (Nat.le_of_ble_eq_true rfl) ?_
  refine zgo hC0 40 7 rfl ?_
  refine zcopy hC0 lk0_39 (by decide +kernel : decode cX0_become 86 = .ok (.invokestatic 39, 3)) rfl rfl rfl (Nat.le_refl _) (Nat.le_refl _) (Nat.lt_of_succ_le (Nat.le_of_ble_eq_true rfl)) (Nat.le_of_ble_eq_true rfl) (Nat.le_of_ble_eq_true rfl) ?_
  refine zgo hC0 48 7 rfl ?_
  refine zcopy hC0 lk0_39 (by decide +kernel : decode cX0_become 101 = .ok (.invokestatic 39, 3)) rfl rfl rfl (Nat.le_refl _) (Nat.le_refl _) (Nat.lt_of_succ_le (Nat.le_of_ble_eq_true rfl)) (Nat.le_of_ble_eq_true rfl) (Nat.le_of_ble_eq_true rfl) ?_
  refine zgo hC0 56 7 rfl ?_
  refine zcopy hC0 lk0_39 (by decide +kernel : decode cX0_become 116 = .ok (.invokestatic 39, 3)) rfl rfl rfl (Nat.le_refl _) (Nat.le_refl _) (Nat.lt_of_succ_le (Nat.le_of_ble_eq_true rfl)) (Nat.le_of_ble_eq_true rfl) (Nat.le_of_ble_eq_true rfl) ?_
  refine zgo hC0 64 7 rfl ?_
  refine zcopy hC0 lk0_39 (by decide +kernel : decode cX0_become 131 = .ok (.invokestatic 39, 3)) rfl rfl rfl (Nat.le_refl _) (Nat.le_refl _) (Nat.lt_of_succ_le (Nat.le_of_ble_eq_true rfl)) (Nat.le_of_ble_eq_true rfl) (Nat.le_of_ble_eq_true rfl) ?_
  refine zgo hC0 72 12 rfl ?_
  refine zeq hC0 (h2 := hC w ++ (hC w).map (zrn sgO)) ?_ ?_
  · exact ⟨rfl, ⟨rfl, rfl, fun j hj => sb_cpy0 hj⟩, ⟨rfl, rfl, fun j hj => sb_cpy0 hj⟩, ⟨rfl, rfl, fun j hj => sb_cpy0 hj⟩, ⟨rfl, rfl, fun j hj => sb_cpy0 hj⟩, ⟨rfl, rfl, fun j hj => sb_cpy0 hj⟩, ⟨rfl, rfl, fun j hj => sb_cpy0 hj⟩, ⟨rfl, rfl, fun j hj => sb_cpy0 hj⟩, ⟨rfl, rfl, fun j hj => sb_cpy0 hj⟩, ⟨rfl, rfl, fun j hj => sb_cpy0 hj⟩, zeqc_rf _, zeqc_rf _, zeqc_rf _, zeqc_rf _, zeqc_rf _, zeqc_rf _, zeqc_rf _, zeqc_rf _, zeqc_rf _, zeqc_rf _, trivial⟩
  · refine zgo hC0 84 1 rfl ?_
    exact ⟨rfl, rfl⟩
