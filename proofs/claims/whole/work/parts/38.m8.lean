/-! RepealedLawsModel: law, topic, councillor, count -/
set_option maxHeartbeats 2000000 in
set_option maxRecDepth 20000 in
theorem mX4_law (v u : CV) (x w : Int32) (n : Nat) (hm : WM v n) (hl : WL v n) (hr : RM v (u 0)) : ZM yX4_law cX4_law 3 (some .int) 4 88 [.ref 0, .int x, .int w] (hM u) (some (.int (zLaw v x w n))) (hM u) := by
  refine zm_of 4 qX4_law rfl rfl kX4_law rfl (Nat.le_of_ble_eq_true rfl) (fun C hC0 => ?_)
  have hn := hm.2
  refine zgo hC0 0 2 rfl ?_
  refine zcallV hC0 (mX4_isLaw v u x n hm hr) vX4_isLaw lk4_113 (by decide +kernel : decode cX4_law 2 = .ok (.invokevirtual 113, 3)) rfl rfl rfl (Nat.le_of_ble_eq_true rfl) (Nat.le_of_ble_eq_true rfl) (Nat.le_of_ble_eq_true rfl) ?_
  refine zgo hC0 3 1 rfl ?_
  refine And.intro (fun c => ?_) (fun c => ?_)
  rotate_left
  · refine zgo hC0 4 2 rfl ?_
    exact zret_i (by rw [zLaw, b2i_f c]; rfl)
  have hL := b2i_t c
  obtain ⟨j, hj, rfl⟩ := zL_nI hm hL
  have e : (nI j).toNatClampNeg = j := nI_clamp (by omega)
  refine zgo hC0 6 3 rfl ?_
  refine And.intro (fun (c7 : ¬ w = nI 7) => ?_) (fun (c7 : w = nI 7) => ?_)
  rotate_left
  · subst c7
    refine zgo hC0 9 2 rfl ?_
    refine zcallV hC0 (mX4_against v u j (by omega) n hm hr) vX4_against lk4_56 (by decide +kernel : decode cX4_law 18 = .ok (.invokevirtual 56, 3)) rfl rfl rfl (Nat.le_of_ble_eq_true rfl) (Nat.le_of_ble_eq_true rfl) (Nat.le_of_ble_eq_true rfl) ?_
    refine zgo hC0 12 1 rfl ?_
    refine zgo hC0 40 1 rfl ?_
    refine zret_i ?_
    rw [zLaw, hL, zix_at (by decide) (by decide)]
    show nI (cnt (fun k => zCT v (nI j) (nI k)) n) = _
    rw [cnt_congr (p := fun k => zCT v (nI j) (nI k)) (q := fun k => iCT v k j) (fun i hi => (zCT_at hm hj hi).trans (iCT_symm v j i))]
  refine zgo hC0 13 3 rfl ?_
  refine And.intro (fun (c8 : ¬ w = nI 8) => ?_) (fun (c8 : w = nI 8) => ?_)
  rotate_left
  · subst c8
    have hz : zLaw v (nI j) (nI 8) n = if zH v (v 3 j) n = nI j then nI 1 else nI 0 := by
      rw [zLaw, hL, zix_at (by decide) (by decide)]
      show (if zH v (v 3 (nI j).toNatClampNeg) n = nI j then nI 1 else nI 0) = _
      rw [e]
    refine zgo hC0 16 4 rfl ?_
    refine zcallV hC0 (mX4_get v u j 1 (by omega) (by decide) hr) vX4_get lk4_40 (by decide +kernel : decode cX4_law 34 = .ok (.invokevirtual 40, 3)) rfl rfl rfl (Nat.le_of_ble_eq_true rfl) (Nat.le_of_ble_eq_true rfl) (Nat.le_of_ble_eq_true rfl) ?_
    refine zgo hC0 21 0 rfl ?_
    refine zcallV hC0 (mX4_holder v u (v 3 j) n hm hl hr) vX4_holder lk4_52 (by decide +kernel : decode cX4_law 37 = .ok (.invokevirtual 52, 3)) rfl rfl rfl (Nat.le_of_ble_eq_true rfl) (Nat.le_of_ble_eq_true rfl) (Nat.le_of_ble_eq_true rfl) ?_
    refine zgo hC0 22 2 rfl ?_
    refine And.intro (fun (c2 : ¬ zH v (v 3 j) n = nI j) => ?_) (fun (c2 : zH v (v 3 j) n = nI j) => ?_)
    · refine zgo hC0 26 2 rfl ?_
      refine zgo hC0 40 1 rfl ?_
      exact zret_i (by rw [hz, if_neg c2]; rfl)
    · refine zgo hC0 24 2 rfl ?_
      refine zgo hC0 40 1 rfl ?_
      exact zret_i (by rw [hz, if_pos c2]; rfl)
  refine zgo hC0 28 4 rfl ?_
  refine zcallS hC0 (mX4_in w.toInt64 (lN 0) (lN 6) (hM u)) vX4_in lk4_34 (by decide +kernel : decode cX4_law 58 = .ok (.invokestatic 34, 3)) rfl rfl (Nat.le_of_ble_eq_true rfl) (Nat.le_of_ble_eq_true rfl) (Nat.le_of_ble_eq_true rfl) ?_
  rw [zin64_eq w (by decide) (by decide)]
  rcases zcase w 7 (by decide) with ⟨i, hi, rfl⟩ | hw
  · have hz : zLaw v (nI j) (nI i) n = v (2 + i) j := by
      rw [zLaw, hL, zix_at (by omega) (by decide)]
      show zLw v (nI j) n i = _
      match i, hi with
      | 0, _ => show v 2 _ = _; rw [e]
      | 1, _ => show v 3 _ = _; rw [e]
      | 2, _ => show v 4 _ = _; rw [e]
      | 3, _ => show v 5 _ = _; rw [e]
      | 4, _ => show v 6 _ = _; rw [e]
      | 5, _ => show v 7 _ = _; rw [e]
      | 6, _ => show v 8 _ = _; rw [e]
      | i + 7, h => exact absurd h (by omega)
    rw [show zbt (nI 0) (nI (6 + 1)) (nI i) = true from zbt_t (nI_pos (by omega)) (nI_ge hi (by decide))]
    refine zgo hC0 33 1 rfl ?_
    refine And.intro (fun c => absurd c (by decide)) (fun _ => ?_)
    refine zgo hC0 34 3 rfl ?_
    refine zcallV hC0 (mX4_get v u j i (by omega) hi hr) vX4_get lk4_40 (by decide +kernel : decode cX4_law 67 = .ok (.invokevirtual 40, 3)) rfl rfl rfl (Nat.le_of_ble_eq_true rfl) (Nat.le_of_ble_eq_true rfl) (Nat.le_of_ble_eq_true rfl) ?_
    refine zgo hC0 38 1 rfl ?_
    refine zgo hC0 40 1 rfl ?_
    exact zret_i hz
  · have hz : zLaw v (nI j) w n = -(nI 2) := by
      rw [zLaw, hL]
      rw [zix_out]
      rcases hw with h | h
      · exact Or.inl h
      · right
        rw [← Int32.toInt_inj, nI_toInt (by decide)] at c7 c8
        rw [Int32.le_iff_toInt_le, nI_toInt (by decide)] at h ⊢
        omega
    rw [show zbt (nI 0) (nI (6 + 1)) w = false by
      rcases hw with h | h
      · exact zand_f1 (decide_eq_false (fun q => q h))
      · exact zand_f2 (decide_eq_false (fun q => q h))]
    refine zgo hC0 33 1 rfl ?_
    refine And.intro (fun _ => ?_) (fun c => absurd rfl c)
    refine zgo hC0 39 2 rfl ?_
    exact zret_i (by rw [hz]; rfl)
set_option maxHeartbeats 2000000 in
set_option maxRecDepth 20000 in
theorem mX4_wishers (v u : CV) (b : Nat) (n : Nat) (hb : b < 6) (hm : WM v n) (hl : WL v n) (hr : RM v (u 0)) : ZM yX4_wishers cX4_wishers 4 (some .int) 4 88 [.ref 0, .int (nI b)] (hM u) (some (.int (nI (cnt (fun c => decide (zWo v (nI c) (nI b) = zST v (nI b) n)) 5)))) (hM u) := by
  refine zm_of 4 qX4_wishers rfl rfl kX4_wishers rfl (Nat.le_of_ble_eq_true rfl) (fun C hC0 => ?_)
  refine zgo hC0 0 4 rfl ?_
  refine zloop 5 (fun i => ∀ a y : Int32, a = nI (cnt (fun c => decide (zWo v (nI c) (nI b) = zST v (nI b) n)) i) → y = nI i → C 4 [some (.ref 0), some (.int (nI b)), some (.int a), some (.int y)] [] (hM u)) ?_ ?_ _ _ rfl rfl
  · rintro a y rfl rfl
    refine zgo hC0 4 3 rfl ?_
    refine And.intro (fun _ => ?_) (fun c => absurd (nI_le (Nat.le_refl 5) (by decide)) c)
    refine zgo hC0 25 2 rfl ?_
    exact zret_i rfl
  · rintro i hi ih a y rfl rfl
    have e1 : (nI (6 + (6 * i + b))).toNatClampNeg = 6 + (6 * i + b) := nI_clamp (by omega)
    refine zgo hC0 4 3 rfl ?_
    refine And.intro (fun c => absurd c (nI_ge hi (by decide))) (fun _ => ?_)
    refine zgo hC0 7 5 rfl ?_
    refine zcallS hC0 (mX4_wishAt i b (hM u)) vX4_wishAt lk4_59 (by decide +kernel : decode cX4_wishers 16 = .ok (.invokestatic 59, 3)) rfl rfl (Nat.le_of_ble_eq_true rfl) (Nat.le_of_ble_eq_true rfl) (Nat.le_of_ble_eq_true rfl) ?_
    refine zgo hC0 13 3 rfl ?_
    refine And.intro (vp_in_nI (N := 596) (by omega) (by decide)) ?_
    show C 22 [some (.ref 0), some (.int (nI b)), some (.int (nI (cnt (fun c => decide (zWo v (nI c) (nI b) = zST v (nI b) n)) i))), some (.int (nI i))] [.int (nI b), .ref 0, .int (u 0 (nI (6 + (6 * i + b))).toNatClampNeg), .int (nI (cnt (fun c => decide (zWo v (nI c) (nI b) = zST v (nI b) n)) i))] (hM u)
    rw [e1, RM_wish hr hi hb]
    refine zcallV hC0 (mX4_holds v u (nI b) n hm hl hr) vX4_holds lk4_132 (by decide +kernel : decode cX4_wishers 22 = .ok (.invokevirtual 132, 3)) rfl rfl rfl (Nat.le_of_ble_eq_true rfl) (Nat.le_of_ble_eq_true rfl) (Nat.le_of_ble_eq_true rfl) ?_
    refine zgo hC0 17 1 rfl ?_
    refine And.intro (fun (c : ¬ zWo v (nI i) (nI b) = zST v (nI b) n) => ?_) (fun (c : zWo v (nI i) (nI b) = zST v (nI b) n) => ?_)
    · refine zgo hC0 20 5 rfl ?_
      exact ih _ _ (cnt_f2 (p := fun c => decide (zWo v (nI c) (nI b) = zST v (nI b) n)) (decide_eq_false c)) (nI_add i 1)
    · refine zgo hC0 18 2 rfl ?_
      refine zgo hC0 21 4 rfl ?_
      exact ih _ _ (cnt_t2 (p := fun c => decide (zWo v (nI c) (nI b) = zST v (nI b) n)) (decide_eq_true c)) (nI_add i 1)
set_option maxHeartbeats 2000000 in
set_option maxRecDepth 20000 in
theorem mX4_topic (v u : CV) (t w : Int32) (n : Nat) (hm : WM v n) (hl : WL v n) (hr : RM v (u 0)) : ZM yX4_topic cX4_topic 3 (some .int) 5 111 [.ref 0, .int t, .int w] (hM u) (some (.int (zTopic v t w n))) (hM u) := by
  refine zm_of 4 qX4_topic rfl rfl kX4_topic rfl (Nat.le_of_ble_eq_true rfl) (fun C hC0 => ?_)
  refine zgo hC0 0 1 rfl ?_
  refine zcallS hC0 (mX4_isTopic t (hM u)) vX4_isTopic lk4_108 (by decide +kernel : decode cX4_topic 1 = .ok (.invokestatic 108, 3)) rfl rfl (Nat.le_of_ble_eq_true rfl) (Nat.le_of_ble_eq_true rfl) (Nat.le_of_ble_eq_true rfl) ?_
  refine zgo hC0 2 1 rfl ?_
  refine And.intro (fun c => ?_) (fun c => ?_)
  rotate_left
  · refine zgo hC0 3 2 rfl ?_
    exact zret_i (by rw [zTopic, b2i_f c]; rfl)
  have hT := b2i_t c
  obtain ⟨b, -, hb, rfl⟩ := zbt_ex (by decide) hT
  refine zgo hC0 5 1 rfl ?_
  rcases zcase w 5 (by decide) with ⟨j, hj, rfl⟩ | hw
  · have hz : zTopic v (nI b) (nI j) n = zTp v (nI b) n j := by rw [zTopic, hT, zix_at hj (by decide)]
    rw [hz] at hC0
    clear hz
    revert j
    refine z5 ?_ ?_ ?_ ?_ ?_
    · intro hC0
      refine zswI hC0 (by decide +kernel : decode cX4_topic 10 = .ok (.tableswitch 64 0 4 #[34, 40, 46, 52, 58], 34)) (tgt := 44) (by decide +kernel) (34) (by decide +kernel) (by decide) ?_
      refine zgo hC0 7 2 rfl ?_
      refine zcallV hC0 (mX4_inForce v u (nI b) n hm hr) vX4_inForce lk4_80 (by decide +kernel : decode cX4_topic 46 = .ok (.invokevirtual 80, 3)) rfl rfl rfl (Nat.le_of_ble_eq_true rfl) (Nat.le_of_ble_eq_true rfl) (Nat.le_of_ble_eq_true rfl) ?_
      refine zgo hC0 10 1 rfl ?_
      refine zret_i ?_
      show nI (cnt (iT v (nI b)) n) = _
      rw [cnt_congr (p := iT v (nI b)) (q := iFT v (nI b)) (fun i _ => by rw [iFT, decide_eq_false (nI_ne_m6 (by omega)), Bool.false_or]; rfl)]
    · intro hC0
      refine zswI hC0 (by decide +kernel : decode cX4_topic 10 = .ok (.tableswitch 64 0 4 #[34, 40, 46, 52, 58], 34)) (tgt := 50) (by decide +kernel) (40) (by decide +kernel) (by decide) ?_
      refine zgo hC0 11 2 rfl ?_
      refine zcallV hC0 (mX4_holds v u (nI b) n hm hl hr) vX4_holds lk4_132 (by decide +kernel : decode cX4_topic 52 = .ok (.invokevirtual 132, 3)) rfl rfl rfl (Nat.le_of_ble_eq_true rfl) (Nat.le_of_ble_eq_true rfl) (Nat.le_of_ble_eq_true rfl) ?_
      refine zgo hC0 14 1 rfl ?_
      exact zret_i rfl
    · intro hC0
      refine zswI hC0 (by decide +kernel : decode cX4_topic 10 = .ok (.tableswitch 64 0 4 #[34, 40, 46, 52, 58], 34)) (tgt := 56) (by decide +kernel) (46) (by decide +kernel) (by decide) ?_
      refine zgo hC0 15 2 rfl ?_
      refine zcallV hC0 (mX4_holder v u (nI b) n hm hl hr) vX4_holder lk4_52 (by decide +kernel : decode cX4_topic 58 = .ok (.invokevirtual 52, 3)) rfl rfl rfl (Nat.le_of_ble_eq_true rfl) (Nat.le_of_ble_eq_true rfl) (Nat.le_of_ble_eq_true rfl) ?_
      refine zgo hC0 18 1 rfl ?_
      exact zret_i rfl
    · intro hC0
      refine zswI hC0 (by decide +kernel : decode cX4_topic 10 = .ok (.tableswitch 64 0 4 #[34, 40, 46, 52, 58], 34)) (tgt := 62) (by decide +kernel) (52) (by decide +kernel) (by decide) ?_
      refine zgo hC0 19 2 rfl ?_
      refine zcallV hC0 (mX4_pairs v u (nI b) n hm hr) vX4_pairs lk4_135 (by decide +kernel : decode cX4_topic 64 = .ok (.invokevirtual 135, 3)) rfl rfl rfl (Nat.le_of_ble_eq_true rfl) (Nat.le_of_ble_eq_true rfl) (Nat.le_of_ble_eq_true rfl) ?_
      refine zgo hC0 22 1 rfl ?_
      exact zret_i (zCI_pairs hb hl)
    · intro hC0
      refine zswI hC0 (by decide +kernel : decode cX4_topic 10 = .ok (.tableswitch 64 0 4 #[34, 40, 46, 52, 58], 34)) (tgt := 68) (by decide +kernel) (58) (by decide +kernel) (by decide) ?_
      refine zgo hC0 23 2 rfl ?_
      refine zcallV hC0 (mX4_wishers v u b n hb hm hl hr) vX4_wishers lk4_138 (by decide +kernel : decode cX4_topic 70 = .ok (.invokevirtual 138, 3)) rfl rfl rfl (Nat.le_of_ble_eq_true rfl) (Nat.le_of_ble_eq_true rfl) (Nat.le_of_ble_eq_true rfl) ?_
      refine zgo hC0 26 1 rfl ?_
      exact zret_i rfl
  · have ho2 := zoutI (by decide) hw
    refine zswO hC0 (by decide +kernel : decode cX4_topic 10 = .ok (.tableswitch 64 0 4 #[34, 40, 46, 52, 58], 34)) (tgt := 74) ((by omega)) (by decide) ?_
    refine zgo hC0 27 2 rfl ?_
    exact zret_i (by rw [zTopic, hT, zix_out hw]; rfl)
set_option maxHeartbeats 2000000 in
set_option maxRecDepth 20000 in
theorem mX4_granted (v u : CV) (a : Nat) (n : Nat) (ha : a < 5) (hm : WM v n) (hl : WL v n) (hr : RM v (u 0)) : ZM yX4_granted cX4_granted 4 (some .int) 4 88 [.ref 0, .int (nI a)] (hM u) (some (.int (zor (fun t => decide (zWo v (nI a) (nI t) = zST v (nI t) n)) 6))) (hM u) := by
  refine zm_of 4 qX4_granted rfl rfl kX4_granted rfl (Nat.le_of_ble_eq_true rfl) (fun C hC0 => ?_)
  refine zgo hC0 0 4 rfl ?_
  refine zloop 6 (fun i => ∀ x y : Int32, x = zor (fun t => decide (zWo v (nI a) (nI t) = zST v (nI t) n)) i → y = nI i → C 4 [some (.ref 0), some (.int (nI a)), some (.int x), some (.int y)] [] (hM u)) ?_ ?_ _ _ rfl rfl
  · rintro x y rfl rfl
    refine zgo hC0 4 3 rfl ?_
    refine And.intro (fun _ => ?_) (fun c => absurd (nI_le (Nat.le_refl 6) (by decide)) c)
    refine zgo hC0 27 2 rfl ?_
    exact zret_i rfl
  · rintro i hi ih x y rfl rfl
    have e1 : (nI (6 + (6 * a + i))).toNatClampNeg = 6 + (6 * a + i) := nI_clamp (by omega)
    refine zgo hC0 4 3 rfl ?_
    refine And.intro (fun c => absurd c (nI_ge hi (by decide))) (fun _ => ?_)
    refine zgo hC0 7 5 rfl ?_
    refine zcallS hC0 (mX4_wishAt a i (hM u)) vX4_wishAt lk4_59 (by decide +kernel : decode cX4_granted 17 = .ok (.invokestatic 59, 3)) rfl rfl (Nat.le_of_ble_eq_true rfl) (Nat.le_of_ble_eq_true rfl) (Nat.le_of_ble_eq_true rfl) ?_
    refine zgo hC0 13 3 rfl ?_
    refine And.intro (vp_in_nI (N := 596) (by omega) (by decide)) ?_
    show C 23 [some (.ref 0), some (.int (nI a)), some (.int (zor (fun t => decide (zWo v (nI a) (nI t) = zST v (nI t) n)) i)), some (.int (nI i))] [.int (nI i), .ref 0, .int (u 0 (nI (6 + (6 * a + i))).toNatClampNeg), .int (zor (fun t => decide (zWo v (nI a) (nI t) = zST v (nI t) n)) i)] (hM u)
    rw [e1, RM_wish hr ha hi]
    refine zcallV hC0 (mX4_holds v u (nI i) n hm hl hr) vX4_holds lk4_132 (by decide +kernel : decode cX4_granted 23 = .ok (.invokevirtual 132, 3)) rfl rfl rfl (Nat.le_of_ble_eq_true rfl) (Nat.le_of_ble_eq_true rfl) (Nat.le_of_ble_eq_true rfl) ?_
    refine zgo hC0 17 1 rfl ?_
    refine And.intro (fun (c : ¬ zWo v (nI a) (nI i) = zST v (nI i) n) => ?_) (fun (c : zWo v (nI a) (nI i) = zST v (nI i) n) => ?_)
    · refine zgo hC0 22 5 rfl ?_
      exact ih _ _ (by rw [zor, decide_eq_false c]; exact zor0 _) (nI_add i 1)
    · refine zgo hC0 18 4 rfl ?_
      refine zgo hC0 23 4 rfl ?_
      exact ih _ _ (by rw [zor, decide_eq_true c]; rfl) (nI_add i 1)
theorem zJ_pos {v : CV} {c t s : Int32} (hs : ¬ s = nI 3) : 0 < zJ v c t s ↔ zWo v c t = s := by
  rw [zJ]
  by_cases h1 : zWo v c t = nI 3
  · rw [if_pos h1]
    exact ⟨fun q => absurd q (by decide), fun q => absurd (q.symm.trans h1) hs⟩
  · rw [if_neg h1]
    by_cases h2 : zWo v c t = s
    · rw [if_pos h2]
      exact ⟨fun _ => h2, fun _ => by decide⟩
    · rw [if_neg h2]
      exact ⟨fun q => absurd q (by decide), fun q => absurd q h2⟩
set_option maxHeartbeats 2000000 in
set_option maxRecDepth 20000 in
theorem mX4_liked (v u : CV) (a : Nat) (n : Nat) (ha : a < 5) (hm : WM v n) (hl : WL v n) (hr : RM v (u 0)) : ZM yX4_liked cX4_liked 4 (some .int) 2 45 [.ref 0, .int (nI a)] (hM u) (some (.int (nI (cnt (iWL v (nI a)) n)))) (hM u) := by
  refine zm_of 4 qX4_liked rfl rfl kX4_liked rfl (Nat.le_of_ble_eq_true rfl) (fun C hC0 => ?_)
  have hn := hm.2
  refine zgo hC0 0 4 rfl ?_
  refine zloop n (fun i => ∀ x y : Int32, x = nI (cnt (iWL v (nI a)) i) → y = nI i → C 4 [some (.ref 0), some (.int (nI a)), some (.int x), some (.int y)] [] (hM u)) ?_ ?_ _ _ rfl rfl
  · rintro x y rfl rfl
    refine zgo hC0 4 6 rfl ?_
    refine And.intro z596 (And.intro (fun _ => ?_) (fun (c : ¬ u 0 4 ≤ nI n) => absurd (zmge_rf hm hr) c))
    refine zgo hC0 34 2 rfl ?_
    exact zret_i rfl
  · rintro i hi ih x y rfl rfl
    have no : iWL v (nI a) i = false → C 47 [some (.ref 0), some (.int (nI a)), some (.int (nI (cnt (iWL v (nI a)) i))), some (.int (nI i))] [.int (nI (cnt (iWL v (nI a)) i))] (hM u) := by
      intro hq
      refine zgo hC0 29 5 rfl ?_
      exact ih _ _ (cnt_f2 hq) (nI_add i 1)
    obtain ⟨-, ⟨b, hb, hb2⟩, ⟨s, hs, hs2⟩, -⟩ := hl i hi
    refine zgo hC0 4 6 rfl ?_
    refine And.intro z596 (And.intro (fun (c : u 0 4 ≤ nI i) => absurd c (zmge_no hm hr hi)) (fun _ => ?_))
    refine zgo hC0 10 3 rfl ?_
    refine zcallV hC0 (mX4_isInForce v u i (by omega) hr) vX4_isInForce lk4_44 (by decide +kernel : decode cX4_liked 17 = .ok (.invokevirtual 44, 3)) rfl rfl rfl (Nat.le_of_ble_eq_true rfl) (Nat.le_of_ble_eq_true rfl) (Nat.le_of_ble_eq_true rfl) ?_
    refine zgo hC0 14 1 rfl ?_
    refine And.intro (fun c => no (zand_f1 (b2i_f c))) (fun c => ?_)
    refine zgo hC0 15 5 rfl ?_
    refine zcallV hC0 (mX4_get v u i 1 (by omega) (by decide) hr) vX4_get lk4_40 (by decide +kernel : decode cX4_liked 28 = .ok (.invokevirtual 40, 3)) rfl rfl rfl (Nat.le_of_ble_eq_true rfl) (Nat.le_of_ble_eq_true rfl) (Nat.le_of_ble_eq_true rfl) ?_
    refine zgo hC0 21 3 rfl ?_
    refine zcallV hC0 (mX4_get v u i 2 (by omega) (by decide) hr) vX4_get lk4_40 (by decide +kernel : decode cX4_liked 34 = .ok (.invokevirtual 40, 3)) rfl rfl rfl (Nat.le_of_ble_eq_true rfl) (Nat.le_of_ble_eq_true rfl) (Nat.le_of_ble_eq_true rfl) ?_
    show C 37 [some (.ref 0), some (.int (nI a)), some (.int (nI (cnt (iWL v (nI a)) i))), some (.int (nI i))] [.int (v 4 i), .int (v 3 i), .int (nI a), .ref 0, .int (nI (cnt (iWL v (nI a)) i))] (hM u)
    rw [hb2]
    refine zcallV hC0 (mX4_joy v u a b (v 4 i) ha hb hr) vX4_joy lk4_62 (by decide +kernel : decode cX4_liked 37 = .ok (.invokevirtual 62, 3)) rfl rfl rfl (Nat.le_of_ble_eq_true rfl) (Nat.le_of_ble_eq_true rfl) (Nat.le_of_ble_eq_true rfl) ?_
    have hj : 0 < zJ v (nI a) (nI b) (v 4 i) ↔ zWo v (nI a) (v 3 i) = v 4 i := by
      rw [hb2]
      exact zJ_pos (by rw [hs2, nI_eq (by omega) (by decide)]; omega)
    refine zgo hC0 26 1 rfl ?_
    refine And.intro (fun (c2 : zJ v (nI a) (nI b) (v 4 i) ≤ 0) => ?_) (fun (c2 : ¬ zJ v (nI a) (nI b) (v 4 i) ≤ 0) => ?_)
    · exact no (zand_f2 (decide_eq_false (fun q => Int32.not_lt.mpr c2 (hj.mpr q))))
    · refine zgo hC0 27 2 rfl ?_
      refine zgo hC0 30 4 rfl ?_
      exact ih _ _ (cnt_t2 (zand_t (b2i_t c) (decide_eq_true (hj.mp (Int32.not_le.mp c2))))) (nI_add i 1)
set_option maxHeartbeats 2000000 in
set_option maxRecDepth 20000 in
theorem mX4_councillor (v u : CV) (x w : Int32) (n : Nat) (hm : WM v n) (hl : WL v n) (hr : RM v (u 0)) : ZM yX4_councillor cX4_councillor 3 (some .int) 5 111 [.ref 0, .int x, .int w] (hM u) (some (.int (zCn v x w n))) (hM u) := by
  refine zm_of 4 qX4_councillor rfl rfl kX4_councillor rfl (Nat.le_of_ble_eq_true rfl) (fun C hC0 => ?_)
  refine zgo hC0 0 1 rfl ?_
  refine zcallS hC0 (mX4_isCouncillor x (hM u)) vX4_isCouncillor lk4_105 (by decide +kernel : decode cX4_councillor 1 = .ok (.invokestatic 105, 3)) rfl rfl (Nat.le_of_ble_eq_true rfl) (Nat.le_of_ble_eq_true rfl) (Nat.le_of_ble_eq_true rfl) ?_
  refine zgo hC0 2 1 rfl ?_
  refine And.intro (fun c => ?_) (fun c => ?_)
  rotate_left
  · refine zgo hC0 3 2 rfl ?_
    exact zret_i (by rw [zCn, b2i_f c]; rfl)
  have hC := b2i_t c
  obtain ⟨a, -, ha, rfl⟩ := zbt_ex (by decide) hC
  refine zgo hC0 5 3 rfl ?_
  refine And.intro (fun (c6 : ¬ w = nI 6) => ?_) (fun (c6 : w = nI 6) => ?_)
  rotate_left
  · subst c6
    refine zgo hC0 8 2 rfl ?_
    refine zcallV hC0 (mX4_granted v u a n ha hm hl hr) vX4_granted lk4_141 (by decide +kernel : decode cX4_councillor 17 = .ok (.invokevirtual 141, 3)) rfl rfl rfl (Nat.le_of_ble_eq_true rfl) (Nat.le_of_ble_eq_true rfl) (Nat.le_of_ble_eq_true rfl) ?_
    refine zgo hC0 11 1 rfl ?_
    refine zgo hC0 30 1 rfl ?_
    exact zret_i (by rw [zCn, hC, show zbt (nI 0) (nI 6) (nI 6) = false by decide]; rfl)
  refine zgo hC0 12 3 rfl ?_
  refine And.intro (fun (c7 : ¬ w = nI 7) => ?_) (fun (c7 : w = nI 7) => ?_)
  rotate_left
  · subst c7
    refine zgo hC0 15 2 rfl ?_
    refine zcallV hC0 (mX4_liked v u a n ha hm hl hr) vX4_liked lk4_144 (by decide +kernel : decode cX4_councillor 31 = .ok (.invokevirtual 144, 3)) rfl rfl rfl (Nat.le_of_ble_eq_true rfl) (Nat.le_of_ble_eq_true rfl) (Nat.le_of_ble_eq_true rfl) ?_
    refine zgo hC0 18 1 rfl ?_
    refine zgo hC0 30 1 rfl ?_
    exact zret_i (by rw [zCn, hC, show zbt (nI 0) (nI 6) (nI 7) = false by decide]; rfl)
  refine zgo hC0 19 1 rfl ?_
  refine zcallS hC0 (mX4_isTopic w (hM u)) vX4_isTopic lk4_108 (by decide +kernel : decode cX4_councillor 38 = .ok (.invokestatic 108, 3)) rfl rfl (Nat.le_of_ble_eq_true rfl) (Nat.le_of_ble_eq_true rfl) (Nat.le_of_ble_eq_true rfl) ?_
  refine zgo hC0 21 1 rfl ?_
  refine And.intro (fun c2 => ?_) (fun c2 => ?_)
  · refine zgo hC0 29 2 rfl ?_
    exact zret_i (by rw [zCn, hC, b2i_f c2]; exact (if_neg c6).trans (if_neg c7))
  · have hw := b2i_t c2
    obtain ⟨b, -, hb, rfl⟩ := zbt_ex (by decide) hw
    have e1 : (nI (6 + (6 * a + b))).toNatClampNeg = 6 + (6 * a + b) := nI_clamp (by omega)
    refine zgo hC0 22 4 rfl ?_
    refine zcallS hC0 (mX4_wishAt a b (hM u)) vX4_wishAt lk4_59 (by decide +kernel : decode cX4_councillor 50 = .ok (.invokestatic 59, 3)) rfl rfl (Nat.le_of_ble_eq_true rfl) (Nat.le_of_ble_eq_true rfl) (Nat.le_of_ble_eq_true rfl) ?_
    refine zgo hC0 27 2 rfl ?_
    refine And.intro (vp_in_nI (N := 596) (by omega) (by decide)) ?_
    refine zgo hC0 30 1 rfl ?_
    refine zret_i ?_
    rw [zCn, hC, hw]
    show zWo v (nI a) (nI b) = u 0 (nI (6 + (6 * a + b))).toNatClampNeg
    rw [e1, RM_wish hr ha hb]
set_option maxHeartbeats 2000000 in
set_option maxRecDepth 20000 in
theorem mX4_words (v u : CV) (n : Nat) (hm : WM v n) (hr : RM v (u 0)) : ZM yX4_words cX4_words 3 (some .int) 2 43 [.ref 0] (hM u) (some (.int (zsm (iW v) n))) (hM u) := by
  refine zm_of 4 qX4_words rfl rfl kX4_words rfl (Nat.le_of_ble_eq_true rfl) (fun C hC0 => ?_)
  have hn := hm.2
  refine zgo hC0 0 4 rfl ?_
  refine zloop n (fun i => ∀ a x : Int32, a = zsm (iW v) i → x = nI i → C 4 [some (.ref 0), some (.int a), some (.int x)] [] (hM u)) ?_ ?_ _ _ rfl rfl
  · rintro a x rfl rfl
    refine zgo hC0 4 6 rfl ?_
    refine And.intro z596 (And.intro (fun _ => ?_) (fun (c : ¬ u 0 4 ≤ nI n) => absurd (zmge_rf hm hr) c))
    refine zgo hC0 25 2 rfl ?_
    exact zret_i rfl
  · rintro i hi ih a x rfl rfl
    refine zgo hC0 4 6 rfl ?_
    refine And.intro z596 (And.intro (fun (c : u 0 4 ≤ nI i) => absurd c (zmge_no hm hr hi)) (fun _ => ?_))
    refine zgo hC0 10 3 rfl ?_
    refine zcallV hC0 (mX4_isInForce v u i (by omega) hr) vX4_isInForce lk4_44 (by decide +kernel : decode cX4_words 17 = .ok (.invokevirtual 44, 3)) rfl rfl rfl (Nat.le_of_ble_eq_true rfl) (Nat.le_of_ble_eq_true rfl) (Nat.le_of_ble_eq_true rfl) ?_
    refine zgo hC0 14 1 rfl ?_
    refine And.intro (fun c => ?_) (fun c => ?_)
    · refine zgo hC0 20 5 rfl ?_
      exact ih _ _ (by rw [zsm, iW, b2i_f c]; rfl) (nI_add i 1)
    · refine zgo hC0 15 3 rfl ?_
      refine zcallV hC0 (mX4_get v u i 0 (by omega) (by decide) hr) vX4_get lk4_40 (by decide +kernel : decode cX4_words 26 = .ok (.invokevirtual 40, 3)) rfl rfl rfl (Nat.le_of_ble_eq_true rfl) (Nat.le_of_ble_eq_true rfl) (Nat.le_of_ble_eq_true rfl) ?_
      refine zgo hC0 19 1 rfl ?_
      refine zgo hC0 21 4 rfl ?_
      exact ih _ _ (by rw [zsm, iW, b2i_t c]) (nI_add i 1)
set_option maxHeartbeats 2000000 in
set_option maxRecDepth 20000 in
theorem mX4_ruledTopics (v u : CV) (n : Nat) (hm : WM v n) (hl : WL v n) (hr : RM v (u 0)) : ZM yX4_ruledTopics cX4_ruledTopics 3 (some .int) 3 66 [.ref 0] (hM u) (some (.int (nI (cnt (fun t => decide (¬ zH v (nI t) n = -(nI 6))) 6)))) (hM u) := by
  refine zm_of 4 qX4_ruledTopics rfl rfl kX4_ruledTopics rfl (Nat.le_of_ble_eq_true rfl) (fun C hC0 => ?_)
  refine zgo hC0 0 4 rfl ?_
  refine zloop 6 (fun i => ∀ a x : Int32, a = nI (cnt (fun t => decide (¬ zH v (nI t) n = -(nI 6))) i) → x = nI i → C 4 [some (.ref 0), some (.int a), some (.int x)] [] (hM u)) ?_ ?_ _ _ rfl rfl
  · rintro a x rfl rfl
    refine zgo hC0 4 3 rfl ?_
    refine And.intro (fun _ => ?_) (fun c => absurd (nI_le (Nat.le_refl 6) (by decide)) c)
    refine zgo hC0 20 2 rfl ?_
    exact zret_i rfl
  · rintro i hi ih a x rfl rfl
    refine zgo hC0 4 3 rfl ?_
    refine And.intro (fun c => absurd c (nI_ge hi (by decide))) (fun _ => ?_)
    refine zgo hC0 7 3 rfl ?_
    refine zcallV hC0 (mX4_holder v u (nI i) n hm hl hr) vX4_holder lk4_52 (by decide +kernel : decode cX4_ruledTopics 13 = .ok (.invokevirtual 52, 3)) rfl rfl rfl (Nat.le_of_ble_eq_true rfl) (Nat.le_of_ble_eq_true rfl) (Nat.le_of_ble_eq_true rfl) ?_
    refine zgo hC0 11 2 rfl ?_
    refine And.intro (fun (c : ¬ zH v (nI i) n = -(nI 6)) => ?_) (fun (c : zH v (nI i) n = -(nI 6)) => ?_)
    · refine zgo hC0 15 5 rfl ?_
      exact ih _ _ (cnt_t2 (p := fun t => decide (¬ zH v (nI t) n = -(nI 6))) (decide_eq_true c)) (nI_add i 1)
    · refine zgo hC0 13 2 rfl ?_
      refine zgo hC0 16 4 rfl ?_
      exact ih _ _ (cnt_f2 (p := fun t => decide (¬ zH v (nI t) n = -(nI 6))) (decide_eq_false (fun q => q c))) (nI_add i 1)
theorem zCo_d {v : CV} {n : Nat} (hm : WM v n) : v 9 0 - nI (cnt (iF v) n) = nI n - nI (cnt (iF v) n) := by rw [hm.1]
theorem iFT_all (v : CV) : iFT v (-(nI 6)) = iF v := by
  funext k
  simp [iFT]
set_option maxHeartbeats 2000000 in
set_option maxRecDepth 20000 in
theorem mX4_count (v u : CV) (w : Int32) (n : Nat) (hm : WM v n) (hl : WL v n) (hr : RM v (u 0)) : ZM yX4_count cX4_count 2 (some .int) 5 111 [.ref 0, .int w] (hM u) (some (.int (zCount v (u 2 0) (u 6 0) w n))) (hM u) := by
  refine zm_of 4 qX4_count rfl rfl kX4_count rfl (Nat.le_of_ble_eq_true rfl) (fun C hC0 => ?_)
  have r3 : u 0 3 = v 10 0 := hr.2.1
  have r4 : u 0 4 = v 9 0 := hr.2.2.1
  have r5 : u 0 5 = v 11 0 := hr.2.2.2.1
  rcases zcase w 14 (by decide) with ⟨j, hj, rfl⟩ | hw
  · have hz : zCount v (u 2 0) (u 6 0) (nI j) n = zCo v (u 2 0) (u 6 0) n j := by rw [zCount, zix_at hj (by decide)]
    rw [hz] at hC0
    clear hz
    have low : ∀ i, i < 5 → i = j → zCo v (u 2 0) (u 6 0) n i = u 0 i → C 107 [some (.ref 0), some (.int (nI i))] [] (hM u) := by
      rintro i hi rfl he
      have e : (nI i).toNatClampNeg = i := nI_clamp (by omega)
      refine zgo hC0 36 4 rfl ?_
      refine zcallS hC0 (mX4_in (nI i).toInt64 (lN 0) (lN 4) (hM u)) vX4_in lk4_34 (by decide +kernel : decode cX4_count 113 = .ok (.invokestatic 34, 3)) rfl rfl (Nat.le_of_ble_eq_true rfl) (Nat.le_of_ble_eq_true rfl) (Nat.le_of_ble_eq_true rfl) ?_
      rw [zin64_eq (nI i) (by decide) (by decide), show zbt (nI 0) (nI (4 + 1)) (nI i) = true from zbt_t (nI_pos (by omega)) (nI_ge hi (by decide))]
      refine zgo hC0 41 1 rfl ?_
      refine And.intro (fun c => absurd c (by decide)) (fun _ => ?_)
      refine zgo hC0 42 5 rfl ?_
      refine And.intro (vp_in_nI (N := 596) (by omega) (by decide)) ?_
      refine zgo hC0 48 1 rfl ?_
      refine zret_i ?_
      show zCo v (u 2 0) (u 6 0) n i = u 0 (nI i).toNatClampNeg
      rw [e, he]
    revert j
    refine z14 ?_ ?_ ?_ ?_ ?_ ?_ ?_ ?_ ?_ ?_ ?_ ?_ ?_ ?_
    · intro hC0 low
      refine zgo hC0 0 1 rfl ?_
      refine zswO hC0 (by decide +kernel : decode cX4_count 1 = .ok (.tableswitch 106 5 13 #[51, 58, 72, 77, 77, 84, 89, 96, 101], 51)) (tgt := 107) ((by decide +kernel)) (by decide) ?_
      exact low 0 (by decide) rfl (hr.1 0 (by decide)).symm
    · intro hC0 low
      refine zgo hC0 0 1 rfl ?_
      refine zswO hC0 (by decide +kernel : decode cX4_count 1 = .ok (.tableswitch 106 5 13 #[51, 58, 72, 77, 77, 84, 89, 96, 101], 51)) (tgt := 107) ((by decide +kernel)) (by decide) ?_
      exact low 1 (by decide) rfl (hr.1 1 (by decide)).symm
    · intro hC0 low
      refine zgo hC0 0 1 rfl ?_
      refine zswO hC0 (by decide +kernel : decode cX4_count 1 = .ok (.tableswitch 106 5 13 #[51, 58, 72, 77, 77, 84, 89, 96, 101], 51)) (tgt := 107) ((by decide +kernel)) (by decide) ?_
      exact low 2 (by decide) rfl (hr.1 2 (by decide)).symm
    · intro hC0 low
      refine zgo hC0 0 1 rfl ?_
      refine zswO hC0 (by decide +kernel : decode cX4_count 1 = .ok (.tableswitch 106 5 13 #[51, 58, 72, 77, 77, 84, 89, 96, 101], 51)) (tgt := 107) ((by decide +kernel)) (by decide) ?_
      exact low 3 (by decide) rfl r3.symm
    · intro hC0 low
      refine zgo hC0 0 1 rfl ?_
      refine zswO hC0 (by decide +kernel : decode cX4_count 1 = .ok (.tableswitch 106 5 13 #[51, 58, 72, 77, 77, 84, 89, 96, 101], 51)) (tgt := 107) ((by decide +kernel)) (by decide) ?_
      exact low 4 (by decide) rfl r4.symm
    · intro hC0 _
      refine zgo hC0 0 1 rfl ?_
      refine zswI hC0 (by decide +kernel : decode cX4_count 1 = .ok (.tableswitch 106 5 13 #[51, 58, 72, 77, 77, 84, 89, 96, 101], 51)) (tgt := 52) (by decide +kernel) (51) (by decide +kernel) (by decide) ?_
      refine zgo hC0 2 2 rfl ?_
      refine zcallV hC0 (mX4_inForce v u (-(nI 6)) n hm hr) vX4_inForce lk4_80 (by decide +kernel : decode cX4_count 55 = .ok (.invokevirtual 80, 3)) rfl rfl rfl (Nat.le_of_ble_eq_true rfl) (Nat.le_of_ble_eq_true rfl) (Nat.le_of_ble_eq_true rfl) ?_
      rw [iFT_all]
      refine zgo hC0 5 1 rfl ?_
      exact zret_i rfl
    · intro hC0 _
      refine zgo hC0 0 1 rfl ?_
      refine zswI hC0 (by decide +kernel : decode cX4_count 1 = .ok (.tableswitch 106 5 13 #[51, 58, 72, 77, 77, 84, 89, 96, 101], 51)) (tgt := 59) (by decide +kernel) (58) (by decide +kernel) (by decide) ?_
      refine zgo hC0 6 6 rfl ?_
      refine And.intro z596 ?_
      show C 68 [some (.ref 0), some (.int (nI 6))] [.int (-(nI 6)), .ref 0, .int (u 0 4)] (hM u)
      rw [r4]
      refine zcallV hC0 (mX4_inForce v u (-(nI 6)) n hm hr) vX4_inForce lk4_80 (by decide +kernel : decode cX4_count 68 = .ok (.invokevirtual 80, 3)) rfl rfl rfl (Nat.le_of_ble_eq_true rfl) (Nat.le_of_ble_eq_true rfl) (Nat.le_of_ble_eq_true rfl) ?_
      rw [iFT_all]
      refine zgo hC0 13 2 rfl ?_
      exact zret_i rfl
    · intro hC0 _
      refine zgo hC0 0 1 rfl ?_
      refine zswI hC0 (by decide +kernel : decode cX4_count 1 = .ok (.tableswitch 106 5 13 #[51, 58, 72, 77, 77, 84, 89, 96, 101], 51)) (tgt := 73) (by decide +kernel) (72) (by decide +kernel) (by decide) ?_
      refine zgo hC0 15 1 rfl ?_
      refine zcallV hC0 (mX4_words v u n hm hr) vX4_words lk4_147 (by decide +kernel : decode cX4_count 74 = .ok (.invokevirtual 147, 3)) rfl rfl rfl (Nat.le_of_ble_eq_true rfl) (Nat.le_of_ble_eq_true rfl) (Nat.le_of_ble_eq_true rfl) ?_
      refine zgo hC0 17 1 rfl ?_
      exact zret_i rfl
    · intro hC0 _
      refine zgo hC0 0 1 rfl ?_
      refine zswI hC0 (by decide +kernel : decode cX4_count 1 = .ok (.tableswitch 106 5 13 #[51, 58, 72, 77, 77, 84, 89, 96, 101], 51)) (tgt := 78) (by decide +kernel) (77) (by decide +kernel) (by decide) ?_
      refine zgo hC0 18 2 rfl ?_
      refine zcallV hC0 (mX4_pairs v u (-(nI 6)) n hm hr) vX4_pairs lk4_135 (by decide +kernel : decode cX4_count 81 = .ok (.invokevirtual 135, 3)) rfl rfl rfl (Nat.le_of_ble_eq_true rfl) (Nat.le_of_ble_eq_true rfl) (Nat.le_of_ble_eq_true rfl) ?_
      refine zgo hC0 21 1 rfl ?_
      refine zret_i ?_
      show nI (zps (fun i j => zCT v (nI i) (nI j)) n n) = _
      rw [zps_CT hm, zpsm_all2]
    · intro hC0 _
      refine zgo hC0 0 1 rfl ?_
      refine zswI hC0 (by decide +kernel : decode cX4_count 1 = .ok (.tableswitch 106 5 13 #[51, 58, 72, 77, 77, 84, 89, 96, 101], 51)) (tgt := 78) (by decide +kernel) (77) (by decide +kernel) (by decide) ?_
      refine zgo hC0 18 2 rfl ?_
      refine zcallV hC0 (mX4_pairs v u (-(nI 6)) n hm hr) vX4_pairs lk4_135 (by decide +kernel : decode cX4_count 81 = .ok (.invokevirtual 135, 3)) rfl rfl rfl (Nat.le_of_ble_eq_true rfl) (Nat.le_of_ble_eq_true rfl) (Nat.le_of_ble_eq_true rfl) ?_
      refine zgo hC0 21 1 rfl ?_
      refine zret_i ?_
      show zsm (fun t => zCI v (nI t) n) 6 = _
      rw [zsm_six hl]
    · intro hC0 _
      refine zgo hC0 0 1 rfl ?_
      refine zswI hC0 (by decide +kernel : decode cX4_count 1 = .ok (.tableswitch 106 5 13 #[51, 58, 72, 77, 77, 84, 89, 96, 101], 51)) (tgt := 85) (by decide +kernel) (84) (by decide +kernel) (by decide) ?_
      refine zgo hC0 22 1 rfl ?_
      refine zcallV hC0 (mX4_ruledTopics v u n hm hl hr) vX4_ruledTopics lk4_150 (by decide +kernel : decode cX4_count 86 = .ok (.invokevirtual 150, 3)) rfl rfl rfl (Nat.le_of_ble_eq_true rfl) (Nat.le_of_ble_eq_true rfl) (Nat.le_of_ble_eq_true rfl) ?_
      refine zgo hC0 24 1 rfl ?_
      exact zret_i rfl
    · intro hC0 _
      refine zgo hC0 0 1 rfl ?_
      refine zswI hC0 (by decide +kernel : decode cX4_count 1 = .ok (.tableswitch 106 5 13 #[51, 58, 72, 77, 77, 84, 89, 96, 101], 51)) (tgt := 90) (by decide +kernel) (89) (by decide +kernel) (by decide) ?_
      refine zgo hC0 25 5 rfl ?_
      refine And.intro z596 (zret_i ?_)
      exact r5.symm
    · intro hC0 _
      refine zgo hC0 0 1 rfl ?_
      refine zswI hC0 (by decide +kernel : decode cX4_count 1 = .ok (.tableswitch 106 5 13 #[51, 58, 72, 77, 77, 84, 89, 96, 101], 51)) (tgt := 97) (by decide +kernel) (96) (by decide +kernel) (by decide) ?_
      refine zgo hC0 30 3 rfl ?_
      exact zret_i rfl
    · intro hC0 _
      refine zgo hC0 0 1 rfl ?_
      refine zswI hC0 (by decide +kernel : decode cX4_count 1 = .ok (.tableswitch 106 5 13 #[51, 58, 72, 77, 77, 84, 89, 96, 101], 51)) (tgt := 102) (by decide +kernel) (101) (by decide +kernel) (by decide) ?_
      refine zgo hC0 33 3 rfl ?_
      exact zret_i rfl
  · have ho2 := zoutI (by decide) hw
    have hz : zCount v (u 2 0) (u 6 0) w n = -(nI 2) := by rw [zCount, zix_out hw]
    refine zgo hC0 0 1 rfl ?_
    refine zswO hC0 (by decide +kernel : decode cX4_count 1 = .ok (.tableswitch 106 5 13 #[51, 58, 72, 77, 77, 84, 89, 96, 101], 51)) (tgt := 107) ((by omega)) (by decide) ?_
    refine zgo hC0 36 4 rfl ?_
    refine zcallS hC0 (mX4_in w.toInt64 (lN 0) (lN 4) (hM u)) vX4_in lk4_34 (by decide +kernel : decode cX4_count 113 = .ok (.invokestatic 34, 3)) rfl rfl (Nat.le_of_ble_eq_true rfl) (Nat.le_of_ble_eq_true rfl) (Nat.le_of_ble_eq_true rfl) ?_
    rw [zin64_eq w (by decide) (by decide), show zbt (nI 0) (nI (4 + 1)) w = false by
      rcases hw with h | h
      · exact zand_f1 (decide_eq_false (fun q => q h))
      · refine zand_f2 (decide_eq_false (fun q => q ?_))
        rw [Int32.le_iff_toInt_le, nI_toInt (by decide)] at h ⊢
        omega]
    refine zgo hC0 41 1 rfl ?_
    refine And.intro (fun _ => ?_) (fun c => absurd rfl c)
    refine zgo hC0 47 2 rfl ?_
    exact zret_i (by rw [hz]; rfl)
