/-! RepealedLawsModel: its cells (u f i), and how its row of numbers holds a code v -/
def hM (u : CV) : List ZC := [.inr (.inl (4, [.ref 1, .ref 2, .int (u 2 0), .ref 3, .ref 4, .ref 5, .int (u 6 0), .int (u 7 0), .ref 6, .int (u 9 0)])), .inl (0, 596, u 0), .inl (0, 3576, u 1), .inl (0, 1192, u 3), .inl (0, 2, u 4), .inl (0, 60, u 5), .inl (0, 20, u 8)]
def RM (v : CV) (a : Nat → Int32) : Prop := (∀ i, i < 3 → a i = v 0 i) ∧ a 3 = v 10 0 ∧ a 4 = v 9 0 ∧ a 5 = v 11 0 ∧ (∀ k, k < 30 → a (6 + k) = v 1 k) ∧ ∀ j w, j < 80 → w < 7 → a (36 + 7 * j + w) = v (2 + w) j
/-- the laws made have lengths, topics and stances; one in force has no law that repealed it -/
def WL (v : CV) (n : Nat) : Prop := ∀ j, j < n → (∃ a, 1 ≤ a ∧ a < 10 ∧ v 2 j = nI a) ∧ (∃ b, b < 6 ∧ v 3 j = nI b) ∧ (∃ c, c < 3 ∧ v 4 j = nI c) ∧ (iF v j = true → v 8 j = -(nI 6))
/-! longs -/
theorem zcmp_lt (x y : Int64) : lg_cmp x y < 0 ↔ x.toInt < y.toInt := by
  rw [← Int64.lt_iff_toInt_lt]
  unfold lg_cmp
  by_cases h1 : x > y
  · rw [if_pos h1]
    exact ⟨fun q => absurd q (by decide), fun q => by rw [gt_iff_lt, Int64.lt_iff_toInt_lt] at h1; rw [Int64.lt_iff_toInt_lt] at q; omega⟩
  · rw [if_neg h1]
    by_cases h2 : x = y
    · rw [if_pos h2]
      exact ⟨fun q => absurd q (by decide), fun q => by rw [h2, Int64.lt_iff_toInt_lt] at q; omega⟩
    · rw [if_neg h2]
      refine ⟨fun _ => ?_, fun _ => by decide⟩
      rw [gt_iff_lt, Int64.lt_iff_toInt_lt] at h1
      rw [← Int64.toInt_inj] at h2
      rw [Int64.lt_iff_toInt_lt]
      omega
theorem zcmp_gt (x y : Int64) : 0 < lg_cmp x y ↔ y.toInt < x.toInt := by
  rw [← Int64.lt_iff_toInt_lt]
  unfold lg_cmp
  by_cases h1 : x > y
  · rw [if_pos h1]
    exact ⟨fun _ => h1, fun _ => by decide⟩
  · rw [if_neg h1]
    by_cases h2 : x = y
    · rw [if_pos h2]
      exact ⟨fun q => absurd q (by decide), fun q => absurd q h1⟩
    · rw [if_neg h2]
      exact ⟨fun q => absurd q (by decide), fun q => absurd q h1⟩
def zin64 (x a b : Int64) : Bool := decide (¬ lg_cmp x a < 0) && decide (¬ 0 < lg_cmp x b)
theorem zi64 (x : Int32) : x.toInt64.toInt = x.toInt := by first | exact Int32.toInt_toInt64 x | simp
theorem zin64_eq (x : Int32) {a b : Nat} (ha : a < 2 ^ 30) (hb : b < 2 ^ 30) : zin64 x.toInt64 (lN a) (lN b) = zbt (nI a) (nI (b + 1)) x := by
  unfold zin64 zbt
  congr 1
  · apply decide_eq_decide.mpr
    rw [zcmp_lt, zi64, lN_toInt (by omega), Int32.lt_iff_toInt_lt, nI_toInt (by omega)]
  · apply decide_eq_decide.mpr
    rw [zcmp_gt, zi64, lN_toInt (by omega), Int32.le_iff_toInt_le, nI_toInt (by omega)]
    omega
set_option maxHeartbeats 2000000 in
set_option maxRecDepth 20000 in
theorem mX4_in (x a b : Int64) (h : List ZC) : ZM yX4_in cX4_in 6 (some .boolean) 0 0 [.long x, .long a, .long b] h (some (.int (b2i (zin64 x a b)))) h := by
  refine zm_of 4 qX4_in rfl rfl kX4_in rfl (Nat.le_of_ble_eq_true rfl) (fun C hC0 => ?_)
  refine zgo hC0 0 4 rfl ?_
  refine And.intro (fun c => ?_) (fun c => ?_)
  · refine zgo hC0 10 2 rfl ?_
    exact zret_b (zb0 (zand_f1 (decide_eq_false (fun q => q c))))
  · refine zgo hC0 4 4 rfl ?_
    refine And.intro (fun c2 => ?_) (fun c2 => ?_)
    · refine zgo hC0 10 2 rfl ?_
      exact zret_b (zb0 (zand_f2 (decide_eq_false (fun q => q c2))))
    · refine zgo hC0 8 2 rfl ?_
      refine zgo hC0 11 1 rfl ?_
      exact zret_b (zb1 (zand_t (decide_eq_true c) (decide_eq_true c2)))
set_option maxHeartbeats 2000000 in
set_option maxRecDepth 20000 in
theorem mX4_isTopic (x : Int32) (h : List ZC) : ZM yX4_isTopic cX4_isTopic 1 (some .boolean) 1 25 [.int x] h (some (.int (b2i (zbt (nI 0) (nI 6) x)))) h := by
  refine zm_of 4 qX4_isTopic rfl rfl kX4_isTopic rfl (Nat.le_of_ble_eq_true rfl) (fun C hC0 => ?_)
  refine zgo hC0 0 4 rfl ?_
  refine zcallS hC0 (mX4_in x.toInt64 (lN 0) (lN 5) h) vX4_in lk4_34 (by decide +kernel : decode cX4_isTopic 6 = .ok (.invokestatic 34, 3)) rfl rfl (Nat.le_of_ble_eq_true rfl) (Nat.le_of_ble_eq_true rfl) (Nat.le_of_ble_eq_true rfl) ?_
  refine zgo hC0 5 1 rfl ?_
  exact zret_b (by rw [zin64_eq x (by decide) (by decide)])
set_option maxHeartbeats 2000000 in
set_option maxRecDepth 20000 in
theorem mX4_isStance (x : Int32) (h : List ZC) : ZM yX4_isStance cX4_isStance 1 (some .boolean) 1 25 [.int x] h (some (.int (b2i (zbt (nI 0) (nI 3) x)))) h := by
  refine zm_of 4 qX4_isStance rfl rfl kX4_isStance rfl (Nat.le_of_ble_eq_true rfl) (fun C hC0 => ?_)
  refine zgo hC0 0 4 rfl ?_
  refine zcallS hC0 (mX4_in x.toInt64 (lN 0) (lN 2) h) vX4_in lk4_34 (by decide +kernel : decode cX4_isStance 6 = .ok (.invokestatic 34, 3)) rfl rfl (Nat.le_of_ble_eq_true rfl) (Nat.le_of_ble_eq_true rfl) (Nat.le_of_ble_eq_true rfl) ?_
  refine zgo hC0 5 1 rfl ?_
  exact zret_b (by rw [zin64_eq x (by decide) (by decide)])
set_option maxHeartbeats 2000000 in
set_option maxRecDepth 20000 in
theorem mX4_isCouncillor (x : Int32) (h : List ZC) : ZM yX4_isCouncillor cX4_isCouncillor 1 (some .boolean) 1 25 [.int x] h (some (.int (b2i (zbt (nI 0) (nI 5) x)))) h := by
  refine zm_of 4 qX4_isCouncillor rfl rfl kX4_isCouncillor rfl (Nat.le_of_ble_eq_true rfl) (fun C hC0 => ?_)
  refine zgo hC0 0 4 rfl ?_
  refine zcallS hC0 (mX4_in x.toInt64 (lN 0) (lN 4) h) vX4_in lk4_34 (by decide +kernel : decode cX4_isCouncillor 6 = .ok (.invokestatic 34, 3)) rfl rfl (Nat.le_of_ble_eq_true rfl) (Nat.le_of_ble_eq_true rfl) (Nat.le_of_ble_eq_true rfl) ?_
  refine zgo hC0 5 1 rfl ?_
  exact zret_b (by rw [zin64_eq x (by decide) (by decide)])
theorem zin64_law {v : CV} {n : Nat} (hm : WM v n) (x : Int32) : zin64 x.toInt64 (lN 0) ((v 9 0).toInt64 - lN 1) = zL v x := by
  have hn := hm.2
  have e : ((nI n).toInt64 - lN 1).toInt = (n : Int) - 1 := by
    rw [nI_l (by omega)]
    have h1 : (lN n).toInt = (n : Int) := lN_toInt (by omega)
    have h2 : (lN 1).toInt = 1 := lN_toInt (by decide)
    rw [Int64.toInt_sub, h1, h2]
    exact Int.bmod_eq_of_le (by omega) (by omega)
  unfold zin64 zL
  congr 1
  · apply decide_eq_decide.mpr
    rw [zcmp_lt, zi64, lN_toInt (by decide), Int32.lt_iff_toInt_lt]
    simp
  · apply decide_eq_decide.mpr
    rw [zcmp_gt, zi64, hm.1, e, Int32.le_iff_toInt_le, nI_toInt (by omega)]
    omega
theorem z596 {k : Nat} (h : k < 596 := by decide) : vp_in (nI k) 596 := vp_in_nI h (by decide)
set_option maxHeartbeats 2000000 in
set_option maxRecDepth 20000 in
theorem mX4_isLaw (v u : CV) (x : Int32) (n : Nat) (hm : WM v n) (hr : RM v (u 0)) : ZM yX4_isLaw cX4_isLaw 2 (some .boolean) 1 25 [.ref 0, .int x] (hM u) (some (.int (b2i (zL v x)))) (hM u) := by
  refine zm_of 4 qX4_isLaw rfl rfl kX4_isLaw rfl (Nat.le_of_ble_eq_true rfl) (fun C hC0 => ?_)
  refine zgo hC0 0 10 rfl ?_
  refine And.intro z596 ?_
  show C 12 [some (.ref 0), some (.int x)] [.long ((u 0 4).toInt64 - lN 1), .long (lN 0), .long x.toInt64] (hM u)
  rw [hr.2.2.1]
  refine zcallS hC0 (mX4_in x.toInt64 (lN 0) ((v 9 0).toInt64 - lN 1) (hM u)) vX4_in lk4_34 (by decide +kernel : decode cX4_isLaw 12 = .ok (.invokestatic 34, 3)) rfl rfl (Nat.le_of_ble_eq_true rfl) (Nat.le_of_ble_eq_true rfl) (Nat.le_of_ble_eq_true rfl) ?_
  refine zgo hC0 11 1 rfl ?_
  exact zret_b (by rw [zin64_law hm])
theorem zrow (j w : Nat) : nI 36 + nI 7 * nI j + nI w = nI (36 + 7 * j + w) := by rw [pk_mul, nI_add, nI_add]
set_option maxHeartbeats 2000000 in
set_option maxRecDepth 20000 in
theorem mX4_get (v u : CV) (j w : Nat) (hj : j < 80) (hw : w < 7) (hr : RM v (u 0)) : ZM yX4_get cX4_get 3 (some .int) 0 0 [.ref 0, .int (nI j), .int (nI w)] (hM u) (some (.int (v (2 + w) j))) (hM u) := by
  refine zm_of 4 qX4_get rfl rfl kX4_get rfl (Nat.le_of_ble_eq_true rfl) (fun C hC0 => ?_)
  refine zgo hC0 0 9 rfl ?_
  show C 13 [some (.ref 0), some (.int (nI j)), some (.int (nI w))] [.int (nI 36 + nI 7 * nI j + nI w), .ref 1] (hM u)
  rw [zrow]
  refine zgo hC0 9 2 rfl ?_
  refine And.intro (vp_in_nI (N := 596) (by omega) (by decide)) ?_
  refine zret_i ?_
  rw [← hr.2.2.2.2.2 j w hj hw]
  show _ = u 0 (nI (36 + 7 * j + w)).toNatClampNeg
  rw [nI_clamp (by omega)]
set_option maxHeartbeats 2000000 in
set_option maxRecDepth 20000 in
theorem mX4_lays (u : CV) (j w : Nat) (x : Int32) (hj : j < 80) (hw : w < 7) : ZM yX4_lays cX4_lays 4 none 0 0 [.ref 0, .int (nI j), .int (nI w), .int x] (hM u) none (hM (vup u 0 (upd (u 0) (36 + 7 * j + w) x))) := by
  refine zm_of 4 qX4_lays rfl rfl kX4_lays rfl (Nat.le_of_ble_eq_true rfl) (fun C hC0 => ?_)
  refine zgo hC0 0 9 rfl ?_
  show C 13 [some (.ref 0), some (.int (nI j)), some (.int (nI w)), some (.int x)] [.int (nI 36 + nI 7 * nI j + nI w), .ref 1] (hM u)
  rw [zrow]
  refine zgo hC0 9 3 rfl ?_
  refine And.intro (vp_in_nI (N := 596) (by omega) (by decide)) (And.intro rfl ?_)
  show hM (vup u 0 (upd (u 0) (nI (36 + 7 * j + w)).toNatClampNeg x)) = _
  rw [nI_clamp (by omega)]
set_option maxHeartbeats 2000000 in
set_option maxRecDepth 20000 in
theorem mX4_isInForce (v u : CV) (j : Nat) (hj : j < 80) (hr : RM v (u 0)) : ZM yX4_isInForce cX4_isInForce 2 (some .boolean) 1 22 [.ref 0, .int (nI j)] (hM u) (some (.int (b2i (iF v j)))) (hM u) := by
  refine zm_of 4 qX4_isInForce rfl rfl kX4_isInForce rfl (Nat.le_of_ble_eq_true rfl) (fun C hC0 => ?_)
  refine zgo hC0 0 3 rfl ?_
  refine zcallV hC0 (mX4_get v u j 4 hj (by decide) hr) vX4_get lk4_40 (by decide +kernel : decode cX4_isInForce 3 = .ok (.invokevirtual 40, 3)) rfl rfl rfl (Nat.le_of_ble_eq_true rfl) (Nat.le_of_ble_eq_true rfl) (Nat.le_of_ble_eq_true rfl) ?_
  refine zgo hC0 4 2 rfl ?_
  refine And.intro (fun (c : ¬ v 6 j = -(nI 6)) => ?_) (fun (c : v 6 j = -(nI 6)) => ?_)
  · refine zgo hC0 8 2 rfl ?_
    exact zret_b (zb0 (decide_eq_false c))
  · refine zgo hC0 6 2 rfl ?_
    refine zgo hC0 9 1 rfl ?_
    exact zret_b (zb1 (decide_eq_true c))
set_option maxHeartbeats 2000000 in
set_option maxRecDepth 20000 in
theorem mX4_isLike (v u : CV) (j : Nat) (l t s : Int32) (hj : j < 80) (hr : RM v (u 0)) : ZM yX4_isLike cX4_isLike 5 (some .boolean) 1 22 [.ref 0, .int (nI j), .int l, .int t, .int s] (hM u) (some (.int (b2i (iLK v l t s j)))) (hM u) := by
  refine zm_of 4 qX4_isLike rfl rfl kX4_isLike rfl (Nat.le_of_ble_eq_true rfl) (fun C hC0 => ?_)
  have at35 : iLK v l t s j = false → C 35 [some (.ref 0), some (.int (nI j)), some (.int l), some (.int t), some (.int s)] [] (hM u) := by
    intro hq
    refine zgo hC0 20 2 rfl ?_
    exact zret_b (zb0 hq)
  refine zgo hC0 0 3 rfl ?_
  refine zcallV hC0 (mX4_get v u j 0 hj (by decide) hr) vX4_get lk4_40 (by decide +kernel : decode cX4_isLike 3 = .ok (.invokevirtual 40, 3)) rfl rfl rfl (Nat.le_of_ble_eq_true rfl) (Nat.le_of_ble_eq_true rfl) (Nat.le_of_ble_eq_true rfl) ?_
  refine zgo hC0 4 2 rfl ?_
  refine And.intro (fun (c : ¬ v 2 j = l) => at35 (zand_f1 (decide_eq_false c))) (fun (c : v 2 j = l) => ?_)
  refine zgo hC0 6 3 rfl ?_
  refine zcallV hC0 (mX4_get v u j 1 hj (by decide) hr) vX4_get lk4_40 (by decide +kernel : decode cX4_isLike 13 = .ok (.invokevirtual 40, 3)) rfl rfl rfl (Nat.le_of_ble_eq_true rfl) (Nat.le_of_ble_eq_true rfl) (Nat.le_of_ble_eq_true rfl) ?_
  refine zgo hC0 10 2 rfl ?_
  refine And.intro (fun (c2 : ¬ v 3 j = t) => at35 (zand_f2 (zand_f1 (decide_eq_false c2)))) (fun (c2 : v 3 j = t) => ?_)
  refine zgo hC0 12 3 rfl ?_
  refine zcallV hC0 (mX4_get v u j 2 hj (by decide) hr) vX4_get lk4_40 (by decide +kernel : decode cX4_isLike 23 = .ok (.invokevirtual 40, 3)) rfl rfl rfl (Nat.le_of_ble_eq_true rfl) (Nat.le_of_ble_eq_true rfl) (Nat.le_of_ble_eq_true rfl) ?_
  refine zgo hC0 16 2 rfl ?_
  refine And.intro (fun (c3 : ¬ v 4 j = s) => at35 (zand_f2 (zand_f2 (decide_eq_false c3)))) (fun (c3 : v 4 j = s) => ?_)
  refine zgo hC0 18 2 rfl ?_
  refine zgo hC0 21 1 rfl ?_
  exact zret_b (zb1 (zand_t (decide_eq_true c) (zand_t (decide_eq_true c2) (decide_eq_true c3))))
def iCT (v : CV) (i j : Nat) : Bool := iF v i && (iF v j && (decide (v 3 i = v 3 j) && decide (¬ v 4 i = v 4 j)))
set_option maxHeartbeats 2000000 in
set_option maxRecDepth 20000 in
theorem mX4_contradict (v u : CV) (i j : Nat) (hi : i < 80) (hj : j < 80) (hr : RM v (u 0)) : ZM yX4_contradict cX4_contradict 3 (some .boolean) 2 43 [.ref 0, .int (nI i), .int (nI j)] (hM u) (some (.int (b2i (iCT v i j)))) (hM u) := by
  refine zm_of 4 qX4_contradict rfl rfl kX4_contradict rfl (Nat.le_of_ble_eq_true rfl) (fun C hC0 => ?_)
  have at50 : iCT v i j = false → C 50 [some (.ref 0), some (.int (nI i)), some (.int (nI j))] [] (hM u) := by
    intro hq
    refine zgo hC0 28 2 rfl ?_
    exact zret_b (zb0 hq)
  refine zgo hC0 0 2 rfl ?_
  refine zcallV hC0 (mX4_isInForce v u i hi hr) vX4_isInForce lk4_44 (by decide +kernel : decode cX4_contradict 2 = .ok (.invokevirtual 44, 3)) rfl rfl rfl (Nat.le_of_ble_eq_true rfl) (Nat.le_of_ble_eq_true rfl) (Nat.le_of_ble_eq_true rfl) ?_
  refine zgo hC0 3 1 rfl ?_
  refine And.intro (fun c => at50 (zand_f1 (b2i_f c))) (fun c => ?_)
  refine zgo hC0 4 2 rfl ?_
  refine zcallV hC0 (mX4_isInForce v u j hj hr) vX4_isInForce lk4_44 (by decide +kernel : decode cX4_contradict 10 = .ok (.invokevirtual 44, 3)) rfl rfl rfl (Nat.le_of_ble_eq_true rfl) (Nat.le_of_ble_eq_true rfl) (Nat.le_of_ble_eq_true rfl) ?_
  refine zgo hC0 7 1 rfl ?_
  refine And.intro (fun c2 => at50 (zand_f2 (zand_f1 (b2i_f c2)))) (fun c2 => ?_)
  refine zgo hC0 8 3 rfl ?_
  refine zcallV hC0 (mX4_get v u i 1 hi (by decide) hr) vX4_get lk4_40 (by decide +kernel : decode cX4_contradict 19 = .ok (.invokevirtual 40, 3)) rfl rfl rfl (Nat.le_of_ble_eq_true rfl) (Nat.le_of_ble_eq_true rfl) (Nat.le_of_ble_eq_true rfl) ?_
  refine zgo hC0 12 3 rfl ?_
  refine zcallV hC0 (mX4_get v u j 1 hj (by decide) hr) vX4_get lk4_40 (by decide +kernel : decode cX4_contradict 25 = .ok (.invokevirtual 40, 3)) rfl rfl rfl (Nat.le_of_ble_eq_true rfl) (Nat.le_of_ble_eq_true rfl) (Nat.le_of_ble_eq_true rfl) ?_
  refine zgo hC0 16 1 rfl ?_
  refine And.intro (fun (c3 : ¬ v 3 i = v 3 j) => at50 (zand_f2 (zand_f2 (zand_f1 (decide_eq_false c3))))) (fun (c3 : v 3 i = v 3 j) => ?_)
  refine zgo hC0 17 3 rfl ?_
  refine zcallV hC0 (mX4_get v u i 2 hi (by decide) hr) vX4_get lk4_40 (by decide +kernel : decode cX4_contradict 34 = .ok (.invokevirtual 40, 3)) rfl rfl rfl (Nat.le_of_ble_eq_true rfl) (Nat.le_of_ble_eq_true rfl) (Nat.le_of_ble_eq_true rfl) ?_
  refine zgo hC0 21 3 rfl ?_
  refine zcallV hC0 (mX4_get v u j 2 hj (by decide) hr) vX4_get lk4_40 (by decide +kernel : decode cX4_contradict 40 = .ok (.invokevirtual 40, 3)) rfl rfl rfl (Nat.le_of_ble_eq_true rfl) (Nat.le_of_ble_eq_true rfl) (Nat.le_of_ble_eq_true rfl) ?_
  refine zgo hC0 25 1 rfl ?_
  refine And.intro (fun (c4 : v 4 i = v 4 j) => at50 (zand_f2 (zand_f2 (zand_f2 (decide_eq_false (fun q => q c4)))))) (fun (c4 : ¬ v 4 i = v 4 j) => ?_)
  refine zgo hC0 26 2 rfl ?_
  refine zgo hC0 29 1 rfl ?_
  exact zret_b (zb1 (zand_t (b2i_t c) (zand_t (b2i_t c2) (zand_t (decide_eq_true c3) (decide_eq_true c4)))))
