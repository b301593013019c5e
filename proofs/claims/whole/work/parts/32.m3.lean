/-! RepealedLawsModel: votes, reasons, what passes -/
set_option maxHeartbeats 2000000 in
set_option maxRecDepth 20000 in
theorem mX4_wishAt (a b : Nat) (h : List ZC) : ZM yX4_wishAt cX4_wishAt 2 (some .int) 0 0 [.int (nI a), .int (nI b)] h (some (.int (nI (6 + (6 * a + b))))) h := by
  refine zm_of 4 qX4_wishAt rfl rfl kX4_wishAt rfl (Nat.le_of_ble_eq_true rfl) (fun C hC0 => ?_)
  refine zgo hC0 0 8 rfl ?_
  refine zret_i ?_
  rw [show nI (6 + (6 * a + b)) = nI 6 + nI 6 * nI a + nI b by rw [pk_mul, nI_add, nI_add, Nat.add_assoc]]
  rfl
theorem zWo_at (v : CV) {a b : Nat} (ha : a < 5) (hb : b < 6) : zWo v (nI a) (nI b) = v 1 (6 * a + b) := by
  have e3 : nI a * nI 6 + nI b = nI (6 * a + b) := by rw [pk_mul, nI_add, Nat.mul_comm]
  rw [zWo, e3, if_neg (nI_pos (by omega)), if_neg (nI_ge (by omega) (by decide)), nI_clamp (by omega)]
theorem RM_wish {v : CV} {r : Nat → Int32} (hr : RM v r) {a b : Nat} (ha : a < 5) (hb : b < 6) : r (6 + (6 * a + b)) = zWo v (nI a) (nI b) := by
  rw [zWo_at v ha hb]
  exact hr.2.2.2.2.1 _ (by omega)
set_option maxHeartbeats 2000000 in
set_option maxRecDepth 20000 in
theorem mX4_joy (v u : CV) (a b : Nat) (s : Int32) (ha : a < 5) (hb : b < 6) (hr : RM v (u 0)) : ZM yX4_joy cX4_joy 5 (some .int) 1 21 [.ref 0, .int (nI a), .int (nI b), .int s] (hM u) (some (.int (zJ v (nI a) (nI b) s))) (hM u) := by
  refine zm_of 4 qX4_joy rfl rfl kX4_joy rfl (Nat.le_of_ble_eq_true rfl) (fun C hC0 => ?_)
  have e1 : (nI (6 + (6 * a + b))).toNatClampNeg = 6 + (6 * a + b) := nI_clamp (by omega)
  refine zgo hC0 0 4 rfl ?_
  refine zcallS hC0 (mX4_wishAt a b (hM u)) vX4_wishAt lk4_59 (by decide +kernel : decode cX4_joy 6 = .ok (.invokestatic 59, 3)) rfl rfl (Nat.le_of_ble_eq_true rfl) (Nat.le_of_ble_eq_true rfl) (Nat.le_of_ble_eq_true rfl) ?_
  refine zgo hC0 5 5 rfl ?_
  refine And.intro (vp_in_nI (N := 596) (by omega) (by decide)) ?_
  rw [show ((0, 596, u 0) : Nat × Nat × (Nat → Int32)).2.2 (nI (6 + (6 * a + b))).toNatClampNeg = zWo v (nI a) (nI b) by rw [e1]; exact RM_wish hr ha hb]
  refine And.intro (fun (c1 : ¬ zWo v (nI a) (nI b) = nI 3) => ?_) (fun (c1 : zWo v (nI a) (nI b) = nI 3) => ?_)
  · refine zgo hC0 12 3 rfl ?_
    refine And.intro (fun (c2 : ¬ zWo v (nI a) (nI b) = s) => ?_) (fun (c2 : zWo v (nI a) (nI b) = s) => ?_)
    · refine zgo hC0 17 2 rfl ?_
      exact zret_i (by rw [zJ, if_neg c1, if_neg c2]; rfl)
    · refine zgo hC0 15 2 rfl ?_
      refine zgo hC0 18 1 rfl ?_
      exact zret_i (by rw [zJ, if_neg c1, if_pos c2]; rfl)
  · refine zgo hC0 10 2 rfl ?_
    refine zgo hC0 18 1 rfl ?_
    exact zret_i (by rw [zJ, if_pos c1]; rfl)
/-- a bill names none, or a law -/
def zNm (x : Int32) (n : Nat) : Prop := x = -(nI 6) ∨ ∃ j, j < n ∧ x = nI j
theorem zsub0 (x : Int32) : x - nI 0 = x := Int32.sub_zero x
theorem zor0 (x : Int32) : x ||| nI 0 = x := Int32.or_zero
set_option maxHeartbeats 2000000 in
set_option maxRecDepth 20000 in
theorem mX4_voters (v u : CV) (b : Nat) (s x : Int32) (n : Nat) (hb : b < 6) (hm : WM v n) (hl : WL v n) (hr : RM v (u 0)) (hx : zNm x n) : ZM yX4_voters cX4_voters 7 (some .int) 2 45 [.ref 0, .int (nI b), .int s, .int x] (hM u) (some (.int (zVT v (nI b) s x))) (hM u) := by
  refine zm_of 4 qX4_voters rfl rfl kX4_voters rfl (Nat.le_of_ble_eq_true rfl) (fun C hC0 => ?_)
  have hn := hm.2
  refine zgo hC0 0 4 rfl ?_
  refine zloop 5 (fun i => ∀ (a y : Int32) (o : Option Value), a = zor (zVp v (nI b) s x) i → y = nI i → C 6 [some (.ref 0), some (.int (nI b)), some (.int s), some (.int x), some (.int a), some (.int y), o] [] (hM u)) ?_ ?_ _ _ _ rfl rfl
  · rintro a y o rfl rfl
    refine zgo hC0 4 3 rfl ?_
    refine And.intro (fun _ => ?_) (fun c => absurd (nI_le (Nat.le_refl 5) (by decide)) c)
    refine zgo hC0 48 2 rfl ?_
    exact zret_i rfl
  · rintro i hi ih a y o rfl rfl
    have no : ∀ j : Int32, zVp v (nI b) s x i = false → C 77 [some (.ref 0), some (.int (nI b)), some (.int s), some (.int x), some (.int (zor (zVp v (nI b) s x) i)), some (.int (nI i)), some (.int j)] [.int (zor (zVp v (nI b) s x) i)] (hM u) := by
      intro j hq
      refine zgo hC0 43 5 rfl ?_
      exact ih _ _ _ (by rw [zor, hq]; exact zor0 _) (nI_add i 1)
    have yes : ∀ j : Int32, zVp v (nI b) s x i = true → C 70 [some (.ref 0), some (.int (nI b)), some (.int s), some (.int x), some (.int (zor (zVp v (nI b) s x) i)), some (.int (nI i)), some (.int j)] [.int (zor (zVp v (nI b) s x) i)] (hM u) := by
      intro j hq
      refine zgo hC0 39 4 rfl ?_
      refine zgo hC0 44 4 rfl ?_
      exact ih _ _ _ (by rw [zor, hq]; rfl) (nI_add i 1)
    have fin : ∀ j : Int32, j = zjy v (nI b) s x i → C 51 [some (.ref 0), some (.int (nI b)), some (.int s), some (.int x), some (.int (zor (zVp v (nI b) s x) i)), some (.int (nI i)), some (.int j)] [] (hM u) := by
      rintro j hj
      have hv : zVp v (nI b) s x i = zvt j i := by rw [zVp, hj]
      refine zgo hC0 30 3 rfl ?_
      refine And.intro (fun (c1 : 0 < j) => yes j (by rw [hv, zvt, decide_eq_true c1]; rfl)) (fun (c1 : ¬ 0 < j) => ?_)
      refine zgo hC0 33 2 rfl ?_
      refine And.intro (fun (c2 : ¬ j = 0) => no j (by rw [hv, zvt, decide_eq_false c1, decide_eq_false c2]; rfl)) (fun (c2 : j = 0) => ?_)
      refine zgo hC0 35 4 rfl ?_
      refine And.intro (by decide) (And.intro (fun (c3 : ¬ nI i - nI i / nI 2 * nI 2 = 0) => no j ?_) (fun (c3 : nI i - nI i / nI 2 * nI 2 = 0) => ?_))
      · rw [hv, zvt, decide_eq_false c1, decide_eq_true c2]
        rw [Bool.eq_false_iff.mpr (mt (zodd hi).mpr c3)]
        rfl
      · refine yes j ?_
        rw [hv, zvt, decide_eq_false c1, decide_eq_true c2, (zodd hi).mp c3]
        rfl
    refine zgo hC0 4 3 rfl ?_
    refine And.intro (fun c => absurd c (nI_ge hi (by decide))) (fun _ => ?_)
    refine zgo hC0 7 4 rfl ?_
    refine zcallV hC0 (mX4_joy v u i b s hi hb hr) vX4_joy lk4_62 (by decide +kernel : decode cX4_voters 17 = .ok (.invokevirtual 62, 3)) rfl rfl rfl (Nat.le_of_ble_eq_true rfl) (Nat.le_of_ble_eq_true rfl) (Nat.le_of_ble_eq_true rfl) ?_
    refine zgo hC0 12 3 rfl ?_
    rcases hx with rfl | ⟨j, hj, rfl⟩
    · refine And.intro (fun c => absurd rfl c) (fun _ => ?_)
      refine zgo hC0 15 2 rfl ?_
      refine zgo hC0 28 2 rfl ?_
      exact fin _ (by rw [zjy, zL_m6]; exact zsub0 _)
    · refine And.intro (fun _ => ?_) (fun (c : nI j = -(nI 6)) => absurd c (nI_ne_m6 (by omega)))
      obtain ⟨-, ⟨tb, t1, t2⟩, -⟩ := hl j hj
      refine zgo hC0 17 5 rfl ?_
      refine zcallV hC0 (mX4_get v u j 1 (by omega) (by decide) hr) vX4_get lk4_40 (by decide +kernel : decode cX4_voters 36 = .ok (.invokevirtual 40, 3)) rfl rfl rfl (Nat.le_of_ble_eq_true rfl) (Nat.le_of_ble_eq_true rfl) (Nat.le_of_ble_eq_true rfl) ?_
      refine zgo hC0 23 3 rfl ?_
      refine zcallV hC0 (mX4_get v u j 2 (by omega) (by decide) hr) vX4_get lk4_40 (by decide +kernel : decode cX4_voters 42 = .ok (.invokevirtual 40, 3)) rfl rfl rfl (Nat.le_of_ble_eq_true rfl) (Nat.le_of_ble_eq_true rfl) (Nat.le_of_ble_eq_true rfl) ?_
      show C 45 [some (.ref 0), some (.int (nI b)), some (.int s), some (.int (nI j)), some (.int (zor (zVp v (nI b) s (nI j)) i)), some (.int (nI i)), o] [.int (v 4 j), .int (v 3 j), .int (nI i), .ref 0, .int (zJ v (nI i) (nI b) s)] (hM u)
      rw [t2]
      refine zcallV hC0 (mX4_joy v u i tb (v 4 j) hi t1 hr) vX4_joy lk4_62 (by decide +kernel : decode cX4_voters 45 = .ok (.invokevirtual 62, 3)) rfl rfl rfl (Nat.le_of_ble_eq_true rfl) (Nat.le_of_ble_eq_true rfl) (Nat.le_of_ble_eq_true rfl) ?_
      refine zgo hC0 28 2 rfl ?_
      exact fin _ (by rw [zjy, zL_at hm hj, zcl hn hj, t2])
def zbits (x : Int32) : Nat → Int32
  | 0 => nI 0
  | c + 1 => zbits x c + ((x >>> (nI c &&& 31)) &&& nI 1)
set_option maxHeartbeats 2000000 in
set_option maxRecDepth 20000 in
theorem mX4_bits (x : Int32) (h : List ZC) : ZM yX4_bits cX4_bits 3 (some .int) 0 0 [.int x] h (some (.int (zbits x 5))) h := by
  refine zm_of 4 qX4_bits rfl rfl kX4_bits rfl (Nat.le_of_ble_eq_true rfl) (fun C hC0 => ?_)
  refine zgo hC0 0 4 rfl ?_
  refine zloop 5 (fun i => ∀ a y : Int32, a = zbits x i → y = nI i → C 4 [some (.int x), some (.int a), some (.int y)] [] h) ?_ ?_ _ _ rfl rfl
  · rintro a y rfl rfl
    refine zgo hC0 4 3 rfl ?_
    refine And.intro (fun _ => ?_) (fun c => absurd (nI_le (Nat.le_refl 5) (by decide)) c)
    refine zgo hC0 17 2 rfl ?_
    exact zret_i rfl
  · rintro i hi ih a y rfl rfl
    refine zgo hC0 4 3 rfl ?_
    refine And.intro (fun c => absurd c (nI_ge hi (by decide))) (fun _ => ?_)
    refine zgo hC0 7 10 rfl ?_
    exact ih _ _ rfl (nI_add i 1)
theorem zbits5 (p : Nat → Bool) : zbits (zor p 5) 5 = nI (cnt p 5) := by
  have key : ∀ a b c d e : Bool, ∀ q : Nat → Bool, q 0 = a → q 1 = b → q 2 = c → q 3 = d → q 4 = e → zbits (zor q 5) 5 = nI (cnt q 5) := by
    intro a b c d e q h0 h1 h2 h3 h4
    simp only [zor, cnt, h0, h1, h2, h3, h4]
    clear h0 h1 h2 h3 h4
    cases a <;> cases b <;> cases c <;> cases d <;> cases e <;> decide +kernel
  exact key _ _ _ _ _ p rfl rfl rfl rfl rfl
theorem zbitsv (v : CV) (t s x : Int32) : zbits (zVT v t s x) 5 = zVC v t s x := zbits5 _
theorem zb2i1 : zlit 1 = b2i true := rfl
theorem zb2i0 : zlit 0 = b2i false := rfl
theorem zany_or {p : Nat → Bool} {i : Nat} : zany p (i + 1) = (zany p i || p i) := rfl
set_option maxHeartbeats 2000000 in
set_option maxRecDepth 20000 in
theorem mX4_isThereAlike (v u : CV) (l t s x : Int32) (n : Nat) (hm : WM v n) (hr : RM v (u 0)) : ZM yX4_isThereAlike cX4_isThereAlike 7 (some .boolean) 2 46 [.ref 0, .int l, .int t, .int s, .int x] (hM u) (some (.int (b2i (zAN v l t s x n)))) (hM u) := by
  refine zm_of 4 qX4_isThereAlike rfl rfl kX4_isThereAlike rfl (Nat.le_of_ble_eq_true rfl) (fun C hC0 => ?_)
  have hn := hm.2
  refine zgo hC0 0 4 rfl ?_
  refine zloop n (fun i => ∀ a y : Int32, a = b2i (zany (pAN v l t s x) i) → y = nI i → C 6 [some (.ref 0), some (.int l), some (.int t), some (.int s), some (.int x), some (.int a), some (.int y)] [] (hM u)) ?_ ?_ _ _ rfl rfl
  · rintro a y rfl rfl
    refine zgo hC0 4 6 rfl ?_
    refine And.intro z596 (And.intro (fun _ => ?_) (fun (c : ¬ u 0 4 ≤ nI n) => absurd (zmge_rf hm hr) c))
    refine zgo hC0 32 2 rfl ?_
    exact zret_b rfl
  · rintro i hi ih a y rfl rfl
    have no : zany (pAN v l t s x) i = false → pAN v l t s x i = false → C 54 [some (.ref 0), some (.int l), some (.int t), some (.int s), some (.int x), some (.int (b2i (zany (pAN v l t s x) i))), some (.int (nI i))] [] (hM u) := by
      intro h1 h2
      refine zgo hC0 28 4 rfl ?_
      exact ih _ _ (by rw [zany_or, h1, h2]; rfl) (nI_add i 1)
    have yes : (zany (pAN v l t s x) i || pAN v l t s x i) = true → C 50 [some (.ref 0), some (.int l), some (.int t), some (.int s), some (.int x), some (.int (b2i (zany (pAN v l t s x) i))), some (.int (nI i))] [] (hM u) := by
      intro h1
      refine zgo hC0 26 2 rfl ?_
      refine zgo hC0 29 3 rfl ?_
      exact ih _ _ (by rw [zany_or, h1]; rfl) (nI_add i 1)
    refine zgo hC0 4 6 rfl ?_
    refine And.intro z596 (And.intro (fun (c : u 0 4 ≤ nI i) => absurd c (zmge_no hm hr hi)) (fun _ => ?_))
    refine zgo hC0 10 2 rfl ?_
    refine And.intro (fun c => yes (by rw [b2i_t c]; rfl)) (fun c => ?_)
    have h0 := b2i_f c
    refine zgo hC0 12 3 rfl ?_
    refine And.intro (fun (c1 : nI i = x) => no h0 (zand_f1 (decide_eq_false (fun q => q c1)))) (fun (c1 : ¬ nI i = x) => ?_)
    refine zgo hC0 15 2 rfl ?_
    refine zcallV hC0 (mX4_isInForce v u i (by omega) hr) vX4_isInForce lk4_44 (by decide +kernel : decode cX4_isThereAlike 32 = .ok (.invokevirtual 44, 3)) rfl rfl rfl (Nat.le_of_ble_eq_true rfl) (Nat.le_of_ble_eq_true rfl) (Nat.le_of_ble_eq_true rfl) ?_
    refine zgo hC0 18 1 rfl ?_
    refine And.intro (fun c2 => no h0 (zand_f2 (zand_f1 (b2i_f c2)))) (fun c2 => ?_)
    refine zgo hC0 19 5 rfl ?_
    refine zcallV hC0 (mX4_isLike v u i l t s (by omega) hr) vX4_isLike lk4_66 (by decide +kernel : decode cX4_isThereAlike 44 = .ok (.invokevirtual 66, 3)) rfl rfl rfl (Nat.le_of_ble_eq_true rfl) (Nat.le_of_ble_eq_true rfl) (Nat.le_of_ble_eq_true rfl) ?_
    refine zgo hC0 25 1 rfl ?_
    refine And.intro (fun c3 => no h0 (zand_f2 (zand_f2 (b2i_f c3)))) (fun c3 => ?_)
    exact yes (by rw [show pAN v l t s x i = true from zand_t (decide_eq_true c1) (zand_t (b2i_t c2) (b2i_t c3)), Bool.or_true])
set_option maxHeartbeats 2000000 in
set_option maxRecDepth 20000 in
theorem mX4_isRemembered (v u : CV) (l t s : Int32) (n : Nat) (hm : WM v n) (hr : RM v (u 0)) : ZM yX4_isRemembered cX4_isRemembered 6 (some .boolean) 2 46 [.ref 0, .int l, .int t, .int s] (hM u) (some (.int (b2i (zRL v l t s n)))) (hM u) := by
  refine zm_of 4 qX4_isRemembered rfl rfl kX4_isRemembered rfl (Nat.le_of_ble_eq_true rfl) (fun C hC0 => ?_)
  have hn := hm.2
  have r2 : u 0 2 = v 0 2 := hr.1 2 (by decide)
  have r3 : u 0 3 = v 10 0 := hr.2.1
  refine zgo hC0 0 4 rfl ?_
  refine zloop n (fun i => ∀ a y : Int32, a = b2i (zany (pRL v l t s) i) → y = nI i → C 6 [some (.ref 0), some (.int l), some (.int t), some (.int s), some (.int a), some (.int y)] [] (hM u)) ?_ ?_ _ _ rfl rfl
  · rintro a y rfl rfl
    refine zgo hC0 4 6 rfl ?_
    refine And.intro z596 (And.intro (fun _ => ?_) (fun (c : ¬ u 0 4 ≤ nI n) => absurd (zmge_rf hm hr) c))
    refine zgo hC0 43 2 rfl ?_
    exact zret_b rfl
  · rintro i hi ih a y rfl rfl
    have no : zany (pRL v l t s) i = false → pRL v l t s i = false → C 70 [some (.ref 0), some (.int l), some (.int t), some (.int s), some (.int (b2i (zany (pRL v l t s) i))), some (.int (nI i))] [] (hM u) := by
      intro h1 h2
      refine zgo hC0 39 4 rfl ?_
      exact ih _ _ (by rw [zany_or, h1, h2]; rfl) (nI_add i 1)
    have yes : (zany (pRL v l t s) i || pRL v l t s i) = true → C 66 [some (.ref 0), some (.int l), some (.int t), some (.int s), some (.int (b2i (zany (pRL v l t s) i))), some (.int (nI i))] [] (hM u) := by
      intro h1
      refine zgo hC0 37 2 rfl ?_
      refine zgo hC0 40 3 rfl ?_
      exact ih _ _ (by rw [zany_or, h1]; rfl) (nI_add i 1)
    refine zgo hC0 4 6 rfl ?_
    refine And.intro z596 (And.intro (fun (c : u 0 4 ≤ nI i) => absurd c (zmge_no hm hr hi)) (fun _ => ?_))
    refine zgo hC0 10 2 rfl ?_
    refine And.intro (fun c => yes (by rw [b2i_t c]; rfl)) (fun c => ?_)
    have h0 := b2i_f c
    refine zgo hC0 12 2 rfl ?_
    refine zcallV hC0 (mX4_isInForce v u i (by omega) hr) vX4_isInForce lk4_44 (by decide +kernel : decode cX4_isRemembered 25 = .ok (.invokevirtual 44, 3)) rfl rfl rfl (Nat.le_of_ble_eq_true rfl) (Nat.le_of_ble_eq_true rfl) (Nat.le_of_ble_eq_true rfl) ?_
    refine zgo hC0 15 1 rfl ?_
    refine And.intro (fun c2 => no h0 (zand_f1 (by rw [b2i_t c2]; rfl))) (fun c2 => ?_)
    refine zgo hC0 16 5 rfl ?_
    refine zcallV hC0 (mX4_isLike v u i l t s (by omega) hr) vX4_isLike lk4_66 (by decide +kernel : decode cX4_isRemembered 37 = .ok (.invokevirtual 66, 3)) rfl rfl rfl (Nat.le_of_ble_eq_true rfl) (Nat.le_of_ble_eq_true rfl) (Nat.le_of_ble_eq_true rfl) ?_
    refine zgo hC0 22 1 rfl ?_
    refine And.intro (fun c3 => no h0 (zand_f2 (zand_f1 (b2i_f c3)))) (fun c3 => ?_)
    refine zgo hC0 23 7 rfl ?_
    refine And.intro z596 ?_
    refine zcallV hC0 (mX4_get v u i 4 (by omega) (by decide) hr) vX4_get lk4_40 (by decide +kernel : decode cX4_isRemembered 53 = .ok (.invokevirtual 40, 3)) rfl rfl rfl (Nat.le_of_ble_eq_true rfl) (Nat.le_of_ble_eq_true rfl) (Nat.le_of_ble_eq_true rfl) ?_
    refine zgo hC0 31 6 rfl ?_
    refine And.intro z596 (And.intro (fun (c4 : u 0 2 ≤ u 0 3 - v 6 i) => ?_) (fun (c4 : ¬ u 0 2 ≤ u 0 3 - v 6 i) => ?_))
    · rw [r2, r3] at c4
      exact no h0 (zand_f2 (zand_f2 (decide_eq_false (fun q => q c4))))
    · rw [r2, r3] at c4
      exact yes (by rw [show pRL v l t s i = true from zand_t (by rw [b2i_f c2]; rfl) (zand_t (b2i_t c3) (decide_eq_true c4)), Bool.or_true])
set_option maxHeartbeats 2000000 in
set_option maxRecDepth 20000 in
theorem mX4_isThereAsLong (v u : CV) (l : Int32) (n : Nat) (hm : WM v n) (hr : RM v (u 0)) : ZM yX4_isThereAsLong cX4_isThereAsLong 4 (some .boolean) 2 43 [.ref 0, .int l] (hM u) (some (.int (b2i (zHL v l n)))) (hM u) := by
  refine zm_of 4 qX4_isThereAsLong rfl rfl kX4_isThereAsLong rfl (Nat.le_of_ble_eq_true rfl) (fun C hC0 => ?_)
  have hn := hm.2
  refine zgo hC0 0 4 rfl ?_
  refine zloop n (fun i => ∀ a y : Int32, a = b2i (zany (pHL v l) i) → y = nI i → C 4 [some (.ref 0), some (.int l), some (.int a), some (.int y)] [] (hM u)) ?_ ?_ _ _ rfl rfl
  · rintro a y rfl rfl
    refine zgo hC0 4 6 rfl ?_
    refine And.intro z596 (And.intro (fun _ => ?_) (fun (c : ¬ u 0 4 ≤ nI n) => absurd (zmge_rf hm hr) c))
    refine zgo hC0 28 2 rfl ?_
    exact zret_b rfl
  · rintro i hi ih a y rfl rfl
    have no : zany (pHL v l) i = false → pHL v l i = false → C 40 [some (.ref 0), some (.int l), some (.int (b2i (zany (pHL v l) i))), some (.int (nI i))] [] (hM u) := by
      intro h1 h2
      refine zgo hC0 24 4 rfl ?_
      exact ih _ _ (by rw [zany_or, h1, h2]; rfl) (nI_add i 1)
    have yes : (zany (pHL v l) i || pHL v l i) = true → C 36 [some (.ref 0), some (.int l), some (.int (b2i (zany (pHL v l) i))), some (.int (nI i))] [] (hM u) := by
      intro h1
      refine zgo hC0 22 2 rfl ?_
      refine zgo hC0 25 3 rfl ?_
      exact ih _ _ (by rw [zany_or, h1]; rfl) (nI_add i 1)
    refine zgo hC0 4 6 rfl ?_
    refine And.intro z596 (And.intro (fun (c : u 0 4 ≤ nI i) => absurd c (zmge_no hm hr hi)) (fun _ => ?_))
    refine zgo hC0 10 2 rfl ?_
    refine And.intro (fun c => yes (by rw [b2i_t c]; rfl)) (fun c => ?_)
    have h0 := b2i_f c
    refine zgo hC0 12 2 rfl ?_
    refine zcallV hC0 (mX4_isInForce v u i (by omega) hr) vX4_isInForce lk4_44 (by decide +kernel : decode cX4_isThereAsLong 20 = .ok (.invokevirtual 44, 3)) rfl rfl rfl (Nat.le_of_ble_eq_true rfl) (Nat.le_of_ble_eq_true rfl) (Nat.le_of_ble_eq_true rfl) ?_
    refine zgo hC0 15 1 rfl ?_
    refine And.intro (fun c2 => no h0 (zand_f1 (b2i_f c2))) (fun c2 => ?_)
    refine zgo hC0 16 3 rfl ?_
    refine zcallV hC0 (mX4_get v u i 0 (by omega) (by decide) hr) vX4_get lk4_40 (by decide +kernel : decode cX4_isThereAsLong 29 = .ok (.invokevirtual 40, 3)) rfl rfl rfl (Nat.le_of_ble_eq_true rfl) (Nat.le_of_ble_eq_true rfl) (Nat.le_of_ble_eq_true rfl) ?_
    refine zgo hC0 20 2 rfl ?_
    refine And.intro (fun (c3 : ¬ v 2 i = l) => no h0 (zand_f2 (decide_eq_false c3))) (fun (c3 : v 2 i = l) => ?_)
    exact yes (by rw [show pHL v l i = true from zand_t (b2i_t c2) (decide_eq_true c3), Bool.or_true])
