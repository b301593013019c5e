/-! RepealedLawsModel: set, wish, why, votes, bestRepeal, propose, repeal, endSession -/
theorem zltS (y : Int32) {b : Nat} (hb : b < 2 ^ 30) : nI b < y ↔ nI (b + 1) ≤ y := by
  rw [Int32.lt_iff_toInt_lt, Int32.le_iff_toInt_le, nI_toInt (by omega), nI_toInt (by omega)]
  omega
theorem zsok_at {j : Nat} (hj : j < 3) (y : Int32) : zsok (nI j) y = (decide (¬ y < nI (zlo3 j)) && decide (¬ nI (zhi3 j) < y)) := by rw [zsok, zix_at hj (by decide)]
theorem zsok_z {a b : Nat} (y : Int32) (hb : b < 2 ^ 30) : (decide (¬ y < nI a) && decide (¬ nI b < y)) = zbt (nI a) (nI (b + 1)) y := by
  unfold zbt
  congr 1
  exact decide_eq_decide.mpr (by rw [zltS y hb])
set_option maxHeartbeats 2000000 in
set_option maxRecDepth 20000 in
theorem mX4_isSetting (x y : Int32) (h : List ZC) : ZM yX4_isSetting cX4_isSetting 2 (some .boolean) 1 25 [.int x, .int y] h (some (.int (b2i (zsok x y)))) h := by
  refine zm_of 4 qX4_isSetting rfl rfl kX4_isSetting rfl (Nat.le_of_ble_eq_true rfl) (fun C hC0 => ?_)
  rcases zcase x 3 (by decide) with ⟨j, hj, rfl⟩ | hw
  · rw [zsok_at hj] at hC0
    revert j
    refine z3 ?_ ?_ ?_
    · intro hC0
      refine zgo hC0 0 1 rfl ?_
      refine zswI hC0 (by decide +kernel : decode cX4_isSetting 1 = .ok (.tableswitch 57 0 2 #[27, 37, 47], 27)) (tgt := 28) (by decide +kernel) (27) (by decide +kernel) (by decide) ?_
      refine zgo hC0 2 4 rfl ?_
      refine zcallS hC0 (mX4_in y.toInt64 (lN 1) (lN 5) h) vX4_in lk4_34 (by decide +kernel : decode cX4_isSetting 34 = .ok (.invokestatic 34, 3)) rfl rfl (Nat.le_of_ble_eq_true rfl) (Nat.le_of_ble_eq_true rfl) (Nat.le_of_ble_eq_true rfl) ?_
      refine zgo hC0 7 1 rfl ?_
      exact zret_b (by rw [zin64_eq y (by decide) (by decide)]; exact congrArg b2i (zsok_z (a := 1) (b := 5) y (by decide)))
    · intro hC0
      refine zgo hC0 0 1 rfl ?_
      refine zswI hC0 (by decide +kernel : decode cX4_isSetting 1 = .ok (.tableswitch 57 0 2 #[27, 37, 47], 27)) (tgt := 38) (by decide +kernel) (37) (by decide +kernel) (by decide) ?_
      refine zgo hC0 8 4 rfl ?_
      refine zcallS hC0 (mX4_in y.toInt64 (lN 1) (lN 16) h) vX4_in lk4_34 (by decide +kernel : decode cX4_isSetting 44 = .ok (.invokestatic 34, 3)) rfl rfl (Nat.le_of_ble_eq_true rfl) (Nat.le_of_ble_eq_true rfl) (Nat.le_of_ble_eq_true rfl) ?_
      refine zgo hC0 13 1 rfl ?_
      exact zret_b (by rw [zin64_eq y (by decide) (by decide)]; exact congrArg b2i (zsok_z (a := 1) (b := 16) y (by decide)))
    · intro hC0
      refine zgo hC0 0 1 rfl ?_
      refine zswI hC0 (by decide +kernel : decode cX4_isSetting 1 = .ok (.tableswitch 57 0 2 #[27, 37, 47], 27)) (tgt := 48) (by decide +kernel) (47) (by decide +kernel) (by decide) ?_
      refine zgo hC0 14 4 rfl ?_
      refine zcallS hC0 (mX4_in y.toInt64 (lN 0) (lN 9) h) vX4_in lk4_34 (by decide +kernel : decode cX4_isSetting 54 = .ok (.invokestatic 34, 3)) rfl rfl (Nat.le_of_ble_eq_true rfl) (Nat.le_of_ble_eq_true rfl) (Nat.le_of_ble_eq_true rfl) ?_
      refine zgo hC0 19 1 rfl ?_
      exact zret_b (by rw [zin64_eq y (by decide) (by decide)]; exact congrArg b2i (zsok_z (a := 0) (b := 9) y (by decide)))
  · have ho2 := zoutI (by decide) hw
    refine zgo hC0 0 1 rfl ?_
    refine zswO hC0 (by decide +kernel : decode cX4_isSetting 1 = .ok (.tableswitch 57 0 2 #[27, 37, 47], 27)) (tgt := 58) ((by omega)) (by decide) ?_
    refine zgo hC0 20 2 rfl ?_
    exact zret_b (by rw [zsok, zix_out hw]; rfl)
set_option maxHeartbeats 2000000 in
set_option maxRecDepth 20000 in
theorem mX4_set_f (u : CV) (x y : Int32) (hs : zsok x y = false) : ZM yX4_set cX4_set 4 (some .int) 2 46 [.ref 0, .int x, .int y] (hM u) (some (.int (-(nI 2)))) (hM u) := by
  refine zm_of 4 qX4_set rfl rfl kX4_set rfl (Nat.le_of_ble_eq_true rfl) (fun C hC0 => ?_)
  refine zgo hC0 0 2 rfl ?_
  refine zcallS hC0 (mX4_isSetting x y (hM u)) vX4_isSetting lk4_97 (by decide +kernel : decode cX4_set 2 = .ok (.invokestatic 97, 3)) rfl rfl (Nat.le_of_ble_eq_true rfl) (Nat.le_of_ble_eq_true rfl) (Nat.le_of_ble_eq_true rfl) ?_
  refine zgo hC0 3 1 rfl ?_
  refine And.intro (fun c => absurd (b2i_t c) (by rw [hs]; simp)) (fun _ => ?_)
  refine zgo hC0 4 2 rfl ?_
  exact zret_i rfl
set_option maxHeartbeats 2000000 in
set_option maxRecDepth 20000 in
theorem mX4_set_t (v u : CV) (k j : Nat) (y : Int32) (hk : k ≤ 6) (h2 : u 2 0 = nI k) (hr : RM v (u 0)) (hj : j < 3) (hs : zsok (nI j) y = true) : ZM yX4_set cX4_set 4 (some .int) 2 46 [.ref 0, .int (nI j), .int y] (hM u) (some (.int (v 0 j))) (hM (vup (zcc u k) 0 (upd (u 0) j y))) := by
  refine zm_of 4 qX4_set rfl rfl kX4_set rfl (Nat.le_of_ble_eq_true rfl) (fun C hC0 => ?_)
  have e : (nI j).toNatClampNeg = j := nI_clamp (by omega)
  refine zgo hC0 0 2 rfl ?_
  refine zcallS hC0 (mX4_isSetting (nI j) y (hM u)) vX4_isSetting lk4_97 (by decide +kernel : decode cX4_set 2 = .ok (.invokestatic 97, 3)) rfl rfl (Nat.le_of_ble_eq_true rfl) (Nat.le_of_ble_eq_true rfl) (Nat.le_of_ble_eq_true rfl) ?_
  refine zgo hC0 3 1 rfl ?_
  refine And.intro (fun _ => ?_) (fun c => absurd (b2i_f c) (by rw [hs]; simp))
  refine zgo hC0 6 1 rfl ?_
  refine zcallV hC0 (mX4_changes u k hk h2) vX4_changes lk4_100 (by decide +kernel : decode cX4_set 12 = .ok (.invokevirtual 100, 3)) rfl rfl rfl (Nat.le_of_ble_eq_true rfl) (Nat.le_of_ble_eq_true rfl) (Nat.le_of_ble_eq_true rfl) ?_
  refine zgo hC0 8 12 rfl ?_
  refine And.intro (vp_in_nI (N := 596) (by omega) (by decide)) (And.intro (vp_in_nI (N := 596) (by omega) (by decide)) ⟨rfl, ?_, ?_⟩)
  · show some (Value.int (v 0 j)) = some (Value.int (u 0 (nI j).toNatClampNeg))
    rw [e, hr.1 j hj]
  · show hM (vup (zcc u k) 0 (upd (u 0) (nI j).toNatClampNeg y)) = _
    rw [e]
theorem zWs2_z (w : Int32) : zWs2 w = zbt (nI 0) (nI 4) w := by
  have key : ∀ p q r : Prop, ∀ [Decidable p] [Decidable q] [Decidable r], (((¬ p) ∧ ¬ q) ∨ r ↔ ((¬ p) ∧ ¬ False) ∧ True) → True := fun _ _ _ _ _ _ _ => trivial
  clear key
  rw [Bool.eq_iff_iff]
  unfold zWs2 zbt
  simp only [Bool.or_eq_true, Bool.and_eq_true, decide_eq_true_eq]
  rw [Int32.lt_iff_toInt_lt, Int32.le_iff_toInt_le, Int32.le_iff_toInt_le, ← Int32.toInt_inj, nI_toInt (by decide), nI_toInt (by decide), nI_toInt (by decide)]
  omega
set_option maxHeartbeats 2000000 in
set_option maxRecDepth 20000 in
theorem mX4_wish_a (u : CV) (c t w : Int32) (hs : zWs1 c t = false) : ZM yX4_wish cX4_wish 5 (some .int) 2 45 [.ref 0, .int c, .int t, .int w] (hM u) (some (.int (-(nI 1)))) (hM u) := by
  refine zm_of 4 qX4_wish rfl rfl kX4_wish rfl (Nat.le_of_ble_eq_true rfl) (fun C hC0 => ?_)
  have at14 : C 14 [some (.ref 0), some (.int c), some (.int t), some (.int w), none] [] (hM u) := by
    refine zgo hC0 6 2 rfl ?_
    exact zret_i rfl
  refine zgo hC0 0 1 rfl ?_
  refine zcallS hC0 (mX4_isCouncillor c (hM u)) vX4_isCouncillor lk4_105 (by decide +kernel : decode cX4_wish 1 = .ok (.invokestatic 105, 3)) rfl rfl (Nat.le_of_ble_eq_true rfl) (Nat.le_of_ble_eq_true rfl) (Nat.le_of_ble_eq_true rfl) ?_
  refine zgo hC0 2 1 rfl ?_
  refine And.intro (fun _ => at14) (fun c1 => ?_)
  refine zgo hC0 3 1 rfl ?_
  refine zcallS hC0 (mX4_isTopic t (hM u)) vX4_isTopic lk4_108 (by decide +kernel : decode cX4_wish 8 = .ok (.invokestatic 108, 3)) rfl rfl (Nat.le_of_ble_eq_true rfl) (Nat.le_of_ble_eq_true rfl) (Nat.le_of_ble_eq_true rfl) ?_
  refine zgo hC0 5 1 rfl ?_
  refine And.intro (fun c2 => ?_) (fun _ => at14)
  rw [zWs1, b2i_t c1, b2i_t c2] at hs
  cases hs
set_option maxHeartbeats 2000000 in
set_option maxRecDepth 20000 in
theorem mX4_wish_b (u : CV) (c t w : Int32) (hs : zWs1 c t = true) (hs2 : zWs2 w = false) : ZM yX4_wish cX4_wish 5 (some .int) 2 45 [.ref 0, .int c, .int t, .int w] (hM u) (some (.int (-(nI 2)))) (hM u) := by
  refine zm_of 4 qX4_wish rfl rfl kX4_wish rfl (Nat.le_of_ble_eq_true rfl) (fun C hC0 => ?_)
  rw [zWs1] at hs
  have hs := Bool.and_eq_true_iff.mp hs
  refine zgo hC0 0 1 rfl ?_
  refine zcallS hC0 (mX4_isCouncillor c (hM u)) vX4_isCouncillor lk4_105 (by decide +kernel : decode cX4_wish 1 = .ok (.invokestatic 105, 3)) rfl rfl (Nat.le_of_ble_eq_true rfl) (Nat.le_of_ble_eq_true rfl) (Nat.le_of_ble_eq_true rfl) ?_
  refine zgo hC0 2 1 rfl ?_
  refine And.intro (fun c1 => absurd (hs.1.symm.trans (b2i_f c1)) (by simp)) (fun _ => ?_)
  refine zgo hC0 3 1 rfl ?_
  refine zcallS hC0 (mX4_isTopic t (hM u)) vX4_isTopic lk4_108 (by decide +kernel : decode cX4_wish 8 = .ok (.invokestatic 108, 3)) rfl rfl (Nat.le_of_ble_eq_true rfl) (Nat.le_of_ble_eq_true rfl) (Nat.le_of_ble_eq_true rfl) ?_
  refine zgo hC0 5 1 rfl ?_
  refine And.intro (fun _ => ?_) (fun c1 => absurd (hs.2.symm.trans (b2i_f c1)) (by simp))
  refine zgo hC0 8 4 rfl ?_
  refine zcallS hC0 (mX4_in w.toInt64 (lN 0) (lN 3) (hM u)) vX4_in lk4_34 (by decide +kernel : decode cX4_wish 22 = .ok (.invokestatic 34, 3)) rfl rfl (Nat.le_of_ble_eq_true rfl) (Nat.le_of_ble_eq_true rfl) (Nat.le_of_ble_eq_true rfl) ?_
  rw [zin64_eq w (by decide) (by decide), ← zWs2_z, hs2]
  refine zgo hC0 13 1 rfl ?_
  refine And.intro (fun c1 => absurd rfl c1) (fun _ => ?_)
  refine zgo hC0 14 2 rfl ?_
  exact zret_i rfl
set_option maxHeartbeats 2000000 in
set_option maxRecDepth 20000 in
theorem mX4_wish_t (v u : CV) (k a b : Nat) (w : Int32) (ha : a < 5) (hb : b < 6) (hk : k ≤ 6) (h2 : u 2 0 = nI k) (hr : RM v (u 0)) (hs2 : zWs2 w = true) : ZM yX4_wish cX4_wish 5 (some .int) 2 45 [.ref 0, .int (nI a), .int (nI b), .int w] (hM u) (some (.int (zWo v (nI a) (nI b)))) (hM (vup (zcc u k) 0 (upd (u 0) (6 + (6 * a + b)) w))) := by
  refine zm_of 4 qX4_wish rfl rfl kX4_wish rfl (Nat.le_of_ble_eq_true rfl) (fun C hC0 => ?_)
  have e1 : zbt (nI 0) (nI 5) (nI a) = true := zbt_t (nI_pos (by omega)) (nI_ge ha (by decide))
  have e2 : zbt (nI 0) (nI 6) (nI b) = true := zbt_t (nI_pos (by omega)) (nI_ge hb (by decide))
  have e : (nI (6 + (6 * a + b))).toNatClampNeg = 6 + (6 * a + b) := nI_clamp (by omega)
  refine zgo hC0 0 1 rfl ?_
  refine zcallS hC0 (mX4_isCouncillor (nI a) (hM u)) vX4_isCouncillor lk4_105 (by decide +kernel : decode cX4_wish 1 = .ok (.invokestatic 105, 3)) rfl rfl (Nat.le_of_ble_eq_true rfl) (Nat.le_of_ble_eq_true rfl) (Nat.le_of_ble_eq_true rfl) ?_
  refine zgo hC0 2 1 rfl ?_
  refine And.intro (fun c1 => absurd (e1.symm.trans (b2i_f c1)) (by simp)) (fun _ => ?_)
  refine zgo hC0 3 1 rfl ?_
  refine zcallS hC0 (mX4_isTopic (nI b) (hM u)) vX4_isTopic lk4_108 (by decide +kernel : decode cX4_wish 8 = .ok (.invokestatic 108, 3)) rfl rfl (Nat.le_of_ble_eq_true rfl) (Nat.le_of_ble_eq_true rfl) (Nat.le_of_ble_eq_true rfl) ?_
  refine zgo hC0 5 1 rfl ?_
  refine And.intro (fun _ => ?_) (fun c1 => absurd (e2.symm.trans (b2i_f c1)) (by simp))
  refine zgo hC0 8 4 rfl ?_
  refine zcallS hC0 (mX4_in w.toInt64 (lN 0) (lN 3) (hM u)) vX4_in lk4_34 (by decide +kernel : decode cX4_wish 22 = .ok (.invokestatic 34, 3)) rfl rfl (Nat.le_of_ble_eq_true rfl) (Nat.le_of_ble_eq_true rfl) (Nat.le_of_ble_eq_true rfl) ?_
  rw [zin64_eq w (by decide) (by decide), ← zWs2_z, hs2]
  refine zgo hC0 13 1 rfl ?_
  refine And.intro (fun _ => ?_) (fun c1 => absurd c1 (by decide))
  refine zgo hC0 16 1 rfl ?_
  refine zcallV hC0 (mX4_changes u k hk h2) vX4_changes lk4_100 (by decide +kernel : decode cX4_wish 32 = .ok (.invokevirtual 100, 3)) rfl rfl rfl (Nat.le_of_ble_eq_true rfl) (Nat.le_of_ble_eq_true rfl) (Nat.le_of_ble_eq_true rfl) ?_
  refine zgo hC0 18 4 rfl ?_
  refine zcallS hC0 (mX4_wishAt a b (hM (zcc u k))) vX4_wishAt lk4_59 (by decide +kernel : decode cX4_wish 41 = .ok (.invokestatic 59, 3)) rfl rfl (Nat.le_of_ble_eq_true rfl) (Nat.le_of_ble_eq_true rfl) (Nat.le_of_ble_eq_true rfl) ?_
  refine zgo hC0 23 6 rfl ?_
  refine And.intro (vp_in_nI (N := 596) (by omega) (by decide)) ?_
  refine zcallS hC0 (mX4_wishAt a b (hM (zcc u k))) vX4_wishAt lk4_59 (by decide +kernel : decode cX4_wish 53 = .ok (.invokestatic 59, 3)) rfl rfl (Nat.le_of_ble_eq_true rfl) (Nat.le_of_ble_eq_true rfl) (Nat.le_of_ble_eq_true rfl) ?_
  refine zgo hC0 30 4 rfl ?_
  refine And.intro (vp_in_nI (N := 596) (by omega) (by decide)) ⟨rfl, ?_, ?_⟩
  · show some (Value.int _) = some (Value.int (u 0 (nI (6 + (6 * a + b))).toNatClampNeg))
    rw [e, RM_wish hr ha hb]
  · show hM (vup (zcc u k) 0 (upd (u 0) (nI (6 + (6 * a + b))).toNatClampNeg w)) = _
    rw [e]
set_option maxHeartbeats 2000000 in
set_option maxRecDepth 20000 in
theorem mX4_wrong (v u : CV) (l t s x : Int32) (n : Nat) (hm : WM v n) (hr : RM v (u 0)) : ZM yX4_wrong cX4_wrong 5 (some .int) 2 46 [.ref 0, .int l, .int t, .int s, .int x] (hM u) (some (.int (zEB v l t s x))) (hM u) := by
  refine zm_of 4 qX4_wrong rfl rfl kX4_wrong rfl (Nat.le_of_ble_eq_true rfl) (fun C hC0 => ?_)
  have at23 : (zbt (nI 0) (nI 6) t && (decide (x = -(nI 6)) || zL v x)) = false → C 23 [some (.ref 0), some (.int l), some (.int t), some (.int s), some (.int x)] [] (hM u) := by
    intro hq
    refine zgo hC0 10 2 rfl ?_
    exact zret_i (by rw [zEB, hq]; rfl)
  have at25 : (zbt (nI 0) (nI 6) t && (decide (x = -(nI 6)) || zL v x)) = true → C 25 [some (.ref 0), some (.int l), some (.int t), some (.int s), some (.int x)] [] (hM u) := by
    intro hq
    have at48 : (zbt (nI 1) (nI 10) l && zbt (nI 0) (nI 3) s) = false → C 48 [some (.ref 0), some (.int l), some (.int t), some (.int s), some (.int x)] [] (hM u) := by
      intro hq2
      refine zgo hC0 23 2 rfl ?_
      exact zret_i (by rw [zEB, hq, hq2]; rfl)
    refine zgo hC0 12 4 rfl ?_
    refine zcallS hC0 (mX4_in l.toInt64 (lN 1) (lN 9) (hM u)) vX4_in lk4_34 (by decide +kernel : decode cX4_wrong 31 = .ok (.invokestatic 34, 3)) rfl rfl (Nat.le_of_ble_eq_true rfl) (Nat.le_of_ble_eq_true rfl) (Nat.le_of_ble_eq_true rfl) ?_
    rw [zin64_eq l (by decide) (by decide)]
    refine zgo hC0 17 1 rfl ?_
    refine And.intro (fun c => at48 (zand_f1 (b2i_f c))) (fun c => ?_)
    refine zgo hC0 18 1 rfl ?_
    refine zcallS hC0 (mX4_isStance s (hM u)) vX4_isStance lk4_116 (by decide +kernel : decode cX4_wrong 38 = .ok (.invokestatic 116, 3)) rfl rfl (Nat.le_of_ble_eq_true rfl) (Nat.le_of_ble_eq_true rfl) (Nat.le_of_ble_eq_true rfl) ?_
    refine zgo hC0 20 1 rfl ?_
    refine And.intro (fun c2 => at48 (zand_f2 (b2i_f c2))) (fun c2 => ?_)
    refine zgo hC0 21 2 rfl ?_
    refine zgo hC0 24 1 rfl ?_
    exact zret_i (by rw [zEB, hq, zand_t (b2i_t c) (b2i_t c2)]; rfl)
  refine zgo hC0 0 1 rfl ?_
  refine zcallS hC0 (mX4_isTopic t (hM u)) vX4_isTopic lk4_108 (by decide +kernel : decode cX4_wrong 1 = .ok (.invokestatic 108, 3)) rfl rfl (Nat.le_of_ble_eq_true rfl) (Nat.le_of_ble_eq_true rfl) (Nat.le_of_ble_eq_true rfl) ?_
  refine zgo hC0 2 1 rfl ?_
  refine And.intro (fun c => at23 (zand_f1 (b2i_f c))) (fun c => ?_)
  refine zgo hC0 3 3 rfl ?_
  refine And.intro (fun (c2 : x = -(nI 6)) => at25 (by rw [b2i_t c, decide_eq_true c2]; rfl)) (fun (c2 : ¬ x = -(nI 6)) => ?_)
  refine zgo hC0 6 2 rfl ?_
  refine zcallV hC0 (mX4_isLaw v u x n hm hr) vX4_isLaw lk4_113 (by decide +kernel : decode cX4_wrong 17 = .ok (.invokevirtual 113, 3)) rfl rfl rfl (Nat.le_of_ble_eq_true rfl) (Nat.le_of_ble_eq_true rfl) (Nat.le_of_ble_eq_true rfl) ?_
  refine zgo hC0 9 1 rfl ?_
  refine And.intro (fun c3 => at25 (by rw [b2i_t c, b2i_t c3, decide_eq_false c2]; rfl)) (fun c3 => at23 (by rw [b2i_t c, b2i_f c3, decide_eq_false c2]; rfl))
theorem zbt_ex {a b : Nat} {x : Int32} (hb : b < 2 ^ 31) (h : zbt (nI a) (nI b) x = true) (ha : a < 2 ^ 31 := by decide) : ∃ j, a ≤ j ∧ j < b ∧ x = nI j := by
  simp only [zbt, Bool.and_eq_true, decide_eq_true_eq] at h
  rcases pk_ix x hb with q | q | ⟨j, h1, rfl⟩
  · exfalso
    refine h.1 ?_
    rw [Int32.lt_iff_toInt_lt] at q ⊢
    rw [nI_toInt ha]
    have : (0 : Int32).toInt = 0 := rfl
    omega
  · exact absurd q h.2
  · refine ⟨j, ?_, h1, rfl⟩
    have := h.1
    rw [Int32.lt_iff_toInt_lt, nI_toInt ha, nI_toInt (by omega)] at this
    omega
/-- a bill that can be spoken of -/
theorem zEB_0 {v : CV} {l t s x : Int32} {n : Nat} (hm : WM v n) (h : zEB v l t s x = nI 0) : (∃ a, 1 ≤ a ∧ a < 10 ∧ l = nI a) ∧ (∃ b, b < 6 ∧ t = nI b) ∧ (∃ c, c < 3 ∧ s = nI c) ∧ zNm x n := by
  rw [zEB] at h
  cases h1 : zbt (nI 0) (nI 6) t && (decide (x = -(nI 6)) || zL v x) with
  | false => rw [h1] at h; exact absurd (show -(nI 1) = nI 0 from h) (by decide)
  | true =>
    rw [h1] at h
    cases h2 : zbt (nI 1) (nI 10) l && zbt (nI 0) (nI 3) s with
    | false => rw [h2] at h; exact absurd (show -(nI 2) = nI 0 from h) (by decide)
    | true =>
      simp only [Bool.and_eq_true, Bool.or_eq_true, decide_eq_true_eq] at h1 h2
      obtain ⟨a, a1, a2, a3⟩ := zbt_ex (by decide) h2.1
      obtain ⟨b, b1, b2, b3⟩ := zbt_ex (by decide) h1.1
      obtain ⟨c, c1, c2, c3⟩ := zbt_ex (by decide) h2.2
      exact ⟨⟨a, a1, a2, a3⟩, ⟨b, b2, b3⟩, ⟨c, c2, c3⟩, h1.2.imp id (fun q => zL_nI hm q)⟩
theorem zFull_z {v : CV} {n : Nat} (hm : WM v n) : zFull v = decide (v 9 0 = nI 80) := by
  have hn := hm.2
  rw [zFull, hm.1]
  apply decide_eq_decide.mpr
  rw [nI_ltI (by omega) (by decide), nI_eq (by omega) (by decide)]
  omega
set_option maxHeartbeats 2000000 in
set_option maxRecDepth 20000 in
theorem mX4_why (v u : CV) (l t s x : Int32) (n : Nat) (hm : WM v n) (hl : WL v n) (hr : RM v (u 0)) : ZM yX4_why cX4_why 6 (some .int) 4 96 [.ref 0, .int l, .int t, .int s, .int x] (hM u) (some (.int (zWhy v l t s x n))) (hM u) := by
  refine zm_of 4 qX4_why rfl rfl kX4_why rfl (Nat.le_of_ble_eq_true rfl) (fun C hC0 => ?_)
  refine zgo hC0 0 5 rfl ?_
  refine zcallV hC0 (mX4_wrong v u l t s x n hm hr) vX4_wrong lk4_156 (by decide +kernel : decode cX4_why 6 = .ok (.invokevirtual 156, 3)) rfl rfl rfl (Nat.le_of_ble_eq_true rfl) (Nat.le_of_ble_eq_true rfl) (Nat.le_of_ble_eq_true rfl) ?_
  refine zgo hC0 6 3 rfl ?_
  refine And.intro (fun (c : zEB v l t s x = nI 0) => ?_) (fun (c : ¬ zEB v l t s x = nI 0) => ?_)
  · obtain ⟨-, ⟨b, b1, rfl⟩, -, hx⟩ := zEB_0 hm c
    have r4 : u 0 4 = v 9 0 := hr.2.2.1
    refine zgo hC0 11 6 rfl ?_
    refine And.intro z596 (And.intro (fun (c2 : ¬ u 0 4 = nI 80) => ?_) (fun (c2 : u 0 4 = nI 80) => ?_))
    · rw [r4] at c2
      refine zgo hC0 19 5 rfl ?_
      refine zcallV hC0 (mX4_reason v u l b s x n b1 hm hl hr hx) vX4_reason lk4_159 (by decide +kernel : decode cX4_why 43 = .ok (.invokevirtual 159, 3)) rfl rfl rfl (Nat.le_of_ble_eq_true rfl) (Nat.le_of_ble_eq_true rfl) (Nat.le_of_ble_eq_true rfl) ?_
      refine zgo hC0 25 1 rfl ?_
      exact zret_i (by rw [zWhy, if_pos c, zFull_z hm, decide_eq_false c2])
    · rw [r4] at c2
      refine zgo hC0 17 2 rfl ?_
      refine zgo hC0 25 1 rfl ?_
      exact zret_i (by rw [zWhy, if_pos c, zFull_z hm, decide_eq_true c2]; rfl)
  · refine zgo hC0 9 2 rfl ?_
    refine zgo hC0 25 1 rfl ?_
    exact zret_i (by rw [zWhy, if_neg c])
set_option maxHeartbeats 2000000 in
set_option maxRecDepth 20000 in
theorem mX4_votes (v u : CV) (l t s x : Int32) (n : Nat) (hm : WM v n) (hl : WL v n) (hr : RM v (u 0)) : ZM yX4_votes cX4_votes 6 (some .int) 3 71 [.ref 0, .int l, .int t, .int s, .int x] (hM u) (some (.int (zVotes v l t s x))) (hM u) := by
  refine zm_of 4 qX4_votes rfl rfl kX4_votes rfl (Nat.le_of_ble_eq_true rfl) (fun C hC0 => ?_)
  refine zgo hC0 0 5 rfl ?_
  refine zcallV hC0 (mX4_wrong v u l t s x n hm hr) vX4_wrong lk4_156 (by decide +kernel : decode cX4_votes 6 = .ok (.invokevirtual 156, 3)) rfl rfl rfl (Nat.le_of_ble_eq_true rfl) (Nat.le_of_ble_eq_true rfl) (Nat.le_of_ble_eq_true rfl) ?_
  refine zgo hC0 6 3 rfl ?_
  refine And.intro (fun (c : zEB v l t s x = nI 0) => ?_) (fun (c : ¬ zEB v l t s x = nI 0) => ?_)
  · obtain ⟨-, ⟨b, b1, rfl⟩, -, hx⟩ := zEB_0 hm c
    refine zgo hC0 11 4 rfl ?_
    refine zcallV hC0 (mX4_voters v u b s x n b1 hm hl hr hx) vX4_voters lk4_83 (by decide +kernel : decode cX4_votes 26 = .ok (.invokevirtual 83, 3)) rfl rfl rfl (Nat.le_of_ble_eq_true rfl) (Nat.le_of_ble_eq_true rfl) (Nat.le_of_ble_eq_true rfl) ?_
    refine zgo hC0 16 1 rfl ?_
    exact zret_i (by rw [zVotes, if_pos c])
  · refine zgo hC0 9 2 rfl ?_
    refine zgo hC0 16 1 rfl ?_
    exact zret_i (by rw [zVotes, if_neg c])
set_option maxHeartbeats 2000000 in
set_option maxRecDepth 20000 in
theorem mX4_bestRepeal (v u : CV) (l t s : Int32) (n : Nat) (hm : WM v n) (hl : WL v n) (hr : RM v (u 0)) : ZM yX4_bestRepeal cX4_bestRepeal 5 (some .int) 4 98 [.ref 0, .int l, .int t, .int s] (hM u) (some (.int (zBestR v l t s n))) (hM u) := by
  refine zm_of 4 qX4_bestRepeal rfl rfl kX4_bestRepeal rfl (Nat.le_of_ble_eq_true rfl) (fun C hC0 => ?_)
  refine zgo hC0 0 5 rfl ?_
  refine zcallV hC0 (mX4_wrong v u l t s (-(nI 6)) n hm hr) vX4_wrong lk4_156 (by decide +kernel : decode cX4_bestRepeal 6 = .ok (.invokevirtual 156, 3)) rfl rfl rfl (Nat.le_of_ble_eq_true rfl) (Nat.le_of_ble_eq_true rfl) (Nat.le_of_ble_eq_true rfl) ?_
  refine zgo hC0 6 3 rfl ?_
  refine And.intro (fun (c : zEB v l t s (-(nI 6)) = nI 0) => ?_) (fun (c : ¬ zEB v l t s (-(nI 6)) = nI 0) => ?_)
  · obtain ⟨-, ⟨b, b1, rfl⟩, -, hx⟩ := zEB_0 hm c
    refine zgo hC0 11 4 rfl ?_
    refine zcallV hC0 (mX4_best v u l b s n b1 hm hl hr) vX4_best lk4_162 (by decide +kernel : decode cX4_bestRepeal 25 = .ok (.invokevirtual 162, 3)) rfl rfl rfl (Nat.le_of_ble_eq_true rfl) (Nat.le_of_ble_eq_true rfl) (Nat.le_of_ble_eq_true rfl) ?_
    refine zgo hC0 16 1 rfl ?_
    exact zret_i (by rw [zBestR, if_pos c])
  · refine zgo hC0 9 2 rfl ?_
    refine zgo hC0 16 1 rfl ?_
    exact zret_i (by rw [zBestR, if_neg c])
theorem RM_congr {v w : CV} {a : Nat → Int32} (h : RM v a) (e : ∀ f, v f = w f) : RM w a := by
  rw [← (funext e : v = w)]
  exact h
def zpy (a : Nat → Int32) (n : Nat) (l t s e x : Int32) : Nat → Int32 := upd (upd (upd (upd (upd (upd (upd (upd a 4 (nI (n + 1))) (36 + 7 * n + 0) l) (36 + 7 * n + 1) t) (36 + 7 * n + 2) s) (36 + 7 * n + 3) e) (36 + 7 * n + 4) (-(nI 6))) (36 + 7 * n + 5) x) (36 + 7 * n + 6) (-(nI 6))
/-- the row behind a bill that passes -/
def zpx (a : Nat → Int32) (n : Nat) (l t s e x : Int32) : Nat → Int32 := if x = -(nI 6) then zpy a n l t s e x else upd (upd (zpy a n l t s e x) (36 + 7 * x.toNatClampNeg + 4) e) (36 + 7 * x.toNatClampNeg + 6) (nI n)
theorem RM_py {v : CV} {a : Nat → Int32} {n : Nat} (hr : RM v a) (hn : n < 80) (l t s x : Int32) : RM (zEN1 v l t s x n) (zpy a n l t s (v 10 0) x) := by
  have h1 := RM_made (x := nI (n + 1)) hr
  have h2 := RM_lay (w := 0) (x := l) hn (by decide) h1
  have h3 := RM_lay (w := 1) (x := t) hn (by decide) h2
  have h4 := RM_lay (w := 2) (x := s) hn (by decide) h3
  have h5 := RM_lay (w := 3) (x := v 10 0) hn (by decide) h4
  have h6 := RM_lay (w := 4) (x := -(nI 6)) hn (by decide) h5
  have h7 := RM_lay (w := 5) (x := x) hn (by decide) h6
  have h8 := RM_lay (w := 6) (x := -(nI 6)) hn (by decide) h7
  refine RM_congr h8 (fun f => ?_)
  match f with
  | 0 => rfl
  | 1 => rfl
  | 2 => rfl
  | 3 => rfl
  | 4 => rfl
  | 5 => rfl
  | 6 => rfl
  | 7 => rfl
  | 8 => rfl
  | 9 => rfl
  | f + 10 => rfl
theorem RM_px {v : CV} {a : Nat → Int32} {n : Nat} (hr : RM v a) (hm : WM v n) (hn : n < 80) (l t s : Int32) {x : Int32} (hx : zNm x n) : RM (zEN v l t s x n) (zpx a n l t s (v 10 0) x) := by
  have h1 := RM_py hr hn l t s x
  have hw : WM (zEN1 v l t s x n) (n + 1) := ⟨rfl, hn⟩
  rcases hx with rfl | ⟨j, hj, rfl⟩
  · rw [zpx, if_pos rfl, zEN, zEL, zL_m6]
    exact h1
  · rw [zpx, if_neg (nI_ne_m6 (by omega)), zEN, zEL, zL_at hw (show j < n + 1 by omega), nI_clamp (by omega)]
    have h2 := RM_lay (w := 4) (x := v 10 0) (show j < 80 by omega) (by decide) h1
    have h3 := RM_lay (w := 6) (x := nI n) (show j < 80 by omega) (by decide) h2
    exact h3
