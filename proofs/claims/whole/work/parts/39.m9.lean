/-! RepealedLawsModel: longestBill, bestBill, wipe, undo, save, restore -/
theorem zEB_19 (v : CV) (t s x : Int32) : zEB v (nI 1) t s x = zEB v (nI 9) t s x := by
  unfold zEB
  rw [show zbt (nI 1) (nI 10) (nI 1) = true by decide, show zbt (nI 1) (nI 10) (nI 9) = true by decide]
theorem zVC_ne (v : CV) (t s x : Int32) : ¬ zVC v t s x = -(nI 6) := by
  rw [zVC]
  exact nI_ne_m6 (by have := cnt_le (zVp v t s x) 5; omega)
set_option maxHeartbeats 2000000 in
set_option maxRecDepth 20000 in
theorem mX4_longestBill (v u : CV) (t s : Int32) (n : Nat) (hm : WM v n) (hl : WL v n) (hr : RM v (u 0)) : ZM yX4_longestBill cX4_longestBill 5 (some .int) 5 121 [.ref 0, .int t, .int s] (hM u) (some (.int (zLong v t s n))) (hM u) := by
  refine zm_of 4 qX4_longestBill rfl rfl kX4_longestBill rfl (Nat.le_of_ble_eq_true rfl) (fun C hC0 => ?_)
  have r4 : u 0 4 = v 9 0 := hr.2.2.1
  refine zgo hC0 0 5 rfl ?_
  refine zcallV hC0 (mX4_wrong v u (nI 1) t s (-(nI 6)) n hm hr) vX4_wrong lk4_156 (by decide +kernel : decode cX4_longestBill 6 = .ok (.invokevirtual 156, 3)) rfl rfl rfl (Nat.le_of_ble_eq_true rfl) (Nat.le_of_ble_eq_true rfl) (Nat.le_of_ble_eq_true rfl) ?_
  rw [zEB_19]
  refine zgo hC0 6 3 rfl ?_
  refine And.intro (fun (c : ¬ zEB v (nI 9) t s (-(nI 6)) = nI 0) => ?_) (fun (c : zEB v (nI 9) t s (-(nI 6)) = nI 0) => ?_)
  · refine zgo hC0 15 2 rfl ?_
    refine And.intro (fun c2 => absurd c2 c) (fun _ => ?_)
    refine zgo hC0 17 2 rfl ?_
    refine zgo hC0 20 1 rfl ?_
    exact zret_i (by rw [zLong, if_neg c])
  obtain ⟨-, ⟨b, hb, rfl⟩, -, -⟩ := zEB_0 hm c
  refine zgo hC0 9 6 rfl ?_
  refine And.intro z596 (And.intro (fun (c2 : ¬ u 0 4 = nI 80) => ?_) (fun (c2 : u 0 4 = nI 80) => ?_))
  rotate_left
  · rw [r4] at c2
    rw [c]
    refine zgo hC0 15 2 rfl ?_
    refine And.intro (fun _ => ?_) (fun c3 => absurd rfl c3)
    refine zgo hC0 19 2 rfl ?_
    exact zret_i (by rw [zLong, if_pos c, zFull_z hm, decide_eq_true c2]; rfl)
  rw [r4] at c2
  have hz0 : zLong v (nI b) s n = zLB v (nI b) s n 9 := by rw [zLong, if_pos c, zFull_z hm, decide_eq_false c2]
  have key : ∀ (j : Nat), j ≤ 9 → zLB v (nI b) s n j = zLB v (nI b) s n 9 → C 40 [some (.ref 0), some (.int (nI b)), some (.int s), none, some (.int (nI j))] [] (hM u) := by
    intro j
    induction j with
    | zero =>
      intro _ hz
      refine zgo hC0 23 2 rfl ?_
      refine And.intro (fun _ => ?_) (fun (c3 : ¬ nI 0 ≤ 0) => absurd (by decide) c3)
      refine zgo hC0 35 2 rfl ?_
      exact zret_i (by rw [hz0, ← hz]; rfl)
    | succ j ih =>
      intro hj hz
      refine zgo hC0 23 2 rfl ?_
      refine And.intro (fun (c3 : nI (j + 1) ≤ 0) => absurd c3 (nI_nle (by omega) (by omega))) (fun _ => ?_)
      refine zgo hC0 25 4 rfl ?_
      refine zcallV hC0 (mX4_wouldPass v u (nI (j + 1)) b s n hb hm hl hr) vX4_wouldPass lk4_165 (by decide +kernel : decode cX4_longestBill 50 = .ok (.invokevirtual 165, 3)) rfl rfl rfl (Nat.le_of_ble_eq_true rfl) (Nat.le_of_ble_eq_true rfl) (Nat.le_of_ble_eq_true rfl) ?_
      rw [zLB] at hz
      refine zgo hC0 30 1 rfl ?_
      refine And.intro (fun c4 => ?_) (fun c4 => ?_)
      · have c5 := of_decide_eq_false (b2i_f c4)
        rw [zVI, if_neg c5, if_pos rfl] at hz
        refine zgo hC0 33 2 rfl ?_
        show C 40 [some (.ref 0), some (.int (nI b)), some (.int s), none, some (.int (nI (j + 1) + (-(nI 1))))] [] (hM u)
        rw [show nI (j + 1) + (-(nI 1)) = nI j from pk_m1 j]
        exact ih (by omega) hz
      · have c5 := of_decide_eq_true (b2i_t c4)
        rw [zVI, if_pos c5, if_neg (zVC_ne v (nI b) s _)] at hz
        refine zgo hC0 31 2 rfl ?_
        exact zret_i (by rw [hz0, ← hz])
  refine zgo hC0 21 2 rfl ?_
  refine zmask hC0 [true, true, true, false, true] ?_
  exact key 9 (by decide) rfl
/-- the most votes so far, told in two ways -/
def zrl (a b : Int32) : Prop := (a = -(nI 6) ∧ b = -(nI 1)) ∨ ∃ c, c ≤ 5 ∧ a = nI c ∧ b = nI c
set_option maxHeartbeats 2000000 in
set_option maxRecDepth 20000 in
theorem mX4_bestBill (v u : CV) (n : Nat) (hm : WM v n) (hl : WL v n) (hr : RM v (u 0)) : ZM yX4_bestBill cX4_bestBill 8 (some .int) 5 121 [.ref 0] (hM u) (some (.int (zBest v n))) (hM u) := by
  refine zm_of 4 qX4_bestBill rfl rfl kX4_bestBill rfl (Nat.le_of_ble_eq_true rfl) (fun C hC0 => ?_)
  have r4 : u 0 4 = v 9 0 := hr.2.2.1
  refine zgo hC0 0 6 rfl ?_
  refine And.intro z596 (And.intro (fun (c2 : ¬ u 0 4 = nI 80) => ?_) (fun (c2 : u 0 4 = nI 80) => ?_))
  rotate_left
  · rw [r4] at c2
    refine zgo hC0 6 2 rfl ?_
    exact zret_i (by rw [zBest, zFull_z hm, decide_eq_true c2]; rfl)
  rw [r4] at c2
  have hBs : ∀ k, zBB v n (k + 1) = if zVI v (nI (k / 18 + 1)) (nI (k / 3 % 6)) (nI (k % 3)) n ≤ (zBB v n k).2 then zBB v n k else (nI 100 * nI (k / 18 + 1) + nI 10 * nI (k / 3 % 6) + nI (k % 3), zVI v (nI (k / 18 + 1)) (nI (k / 3 % 6)) (nI (k % 3)) n) := fun _ => rfl
  have hB0 : zBB v n 0 = (-(nI 6), -(nI 6)) := rfl
  have hBe : zBest v n = (zBB v n 162).1 := by rw [zBest, zFull_z hm, decide_eq_false c2]
  generalize zBB v n = B at hBs hB0 hBe
  refine zgo hC0 8 6 rfl ?_
  refine zloop 162 (fun i => ∀ a m y : Int32, a = (B i).1 → zrl (B i).2 m → y = nI i → C 21 [some (.ref 0), some (.int a), some (.int m), some (.int y), none, none, none, none] [] (hM u)) ?_ ?_ _ _ _ (by rw [hB0]; rfl) (by rw [hB0]; exact Or.inl ⟨rfl, rfl⟩) rfl
  · rintro a m y rfl hz rfl
    refine zgo hC0 14 3 rfl ?_
    refine And.intro (fun _ => ?_) (fun c => absurd (nI_le (Nat.le_refl 162) (by decide)) c)
    refine zgo hC0 67 2 rfl ?_
    exact zret_i hBe
  · rintro i hi ih a m y rfl hz rfl
    have e1 : nI 1 + nI i / nI 18 = nI (i / 18 + 1) := by rw [pk_div (by omega) (by decide) (by decide), nI_add, Nat.add_comm]
    have e2 : (nI i / nI 3) - (nI i / nI 3) / nI 6 * nI 6 = nI (i / 3 % 6) := by rw [pk_div (by omega) (by decide) (by decide), pk_rem (by omega) (by decide) (by decide)]
    have e3 : nI i - nI i / nI 3 * nI 3 = nI (i % 3) := pk_rem (by omega) (by decide) (by decide)
    have eq := hBs i
    have hb : i / 3 % 6 < 6 := Nat.mod_lt _ (by decide)
    have hs : i % 3 < 3 := Nat.mod_lt _ (by decide)
    have ht : i / 18 + 1 < 10 := by omega
    generalize i / 18 + 1 = l at eq e1 ht
    generalize i / 3 % 6 = b at eq e2 hb
    generalize i % 3 = s at eq e3 hs
    refine zgo hC0 14 3 rfl ?_
    refine And.intro (fun c => absurd c (nI_ge hi (by decide))) (fun _ => ?_)
    refine zgo hC0 17 23 rfl ?_
    refine And.intro (by decide) (And.intro (by decide) (And.intro (by decide) (And.intro (by decide) ?_)))
    show C 61 [some (.ref 0), some (.int (B i).1), some (.int m), some (.int (nI i)), some (.int (nI 1 + nI i / nI 18)), some (.int ((nI i / nI 3) - (nI i / nI 3) / nI 6 * nI 6)), some (.int (nI i - nI i / nI 3 * nI 3)), none] [.int (nI i - nI i / nI 3 * nI 3), .int ((nI i / nI 3) - (nI i / nI 3) / nI 6 * nI 6), .int (nI 1 + nI i / nI 18), .ref 0, .int (nI i - nI i / nI 3 * nI 3), .int ((nI i / nI 3) - (nI i / nI 3) / nI 6 * nI 6), .ref 0] (hM u)
    rw [e1, e2, e3]
    refine zcallV hC0 (mX4_best v u (nI l) b (nI s) n hb hm hl hr) vX4_best lk4_162 (by decide +kernel : decode cX4_bestBill 61 = .ok (.invokevirtual 162, 3)) rfl rfl rfl (Nat.le_of_ble_eq_true rfl) (Nat.le_of_ble_eq_true rfl) (Nat.le_of_ble_eq_true rfl) ?_
    refine zcallV hC0 (mX4_voters v u b (nI s) (zBR v (nI l) (nI b) (nI s) n) n hb hm hl hr (zBR_nm v (nI l) (nI b) (nI s) n)) vX4_voters lk4_83 (by decide +kernel : decode cX4_bestBill 64 = .ok (.invokevirtual 83, 3)) rfl rfl rfl (Nat.le_of_ble_eq_true rfl) (Nat.le_of_ble_eq_true rfl) (Nat.le_of_ble_eq_true rfl) ?_
    refine zcallS hC0 (mX4_bits (zVT v (nI b) (nI s) (zBR v (nI l) (nI b) (nI s) n)) (hM u)) vX4_bits lk4_86 (by decide +kernel : decode cX4_bestBill 67 = .ok (.invokestatic 86, 3)) rfl rfl (Nat.le_of_ble_eq_true rfl) (Nat.le_of_ble_eq_true rfl) (Nat.le_of_ble_eq_true rfl) ?_
    show C 70 _ [.int (zbits (zVT v (nI b) (nI s) (zBR v (nI l) (nI b) (nI s) n)) 5)] _
    rw [zbitsv]
    have hvc : ∃ c, c ≤ 5 ∧ zVC v (nI b) (nI s) (zBR v (nI l) (nI b) (nI s) n) = nI c := ⟨_, cnt_le _ 5, rfl⟩
    have no : ∀ o, B (i + 1) = B i → C 109 [some (.ref 0), some (.int (B i).1), some (.int m), some (.int (nI i)), some (.int (nI l)), some (.int (nI b)), some (.int (nI s)), o] [] (hM u) := by
      intro o hq
      refine zmask hC0 [true, true, true, true, false, false, false, false] ?_
      refine zgo hC0 65 2 rfl ?_
      exact ih _ _ _ (by rw [hq]) (by rw [hq]; exact hz) (nI_add i 1)
    rw [zVI] at eq
    obtain ⟨c, hc, hc2⟩ := hvc
    rw [hc2] at eq ⊢
    refine zgo hC0 43 4 rfl ?_
    refine And.intro (fun (c3 : nI c ≤ m) => no _ ?_) (fun (c3 : ¬ nI c ≤ m) => ?_)
    · rw [eq]
      rcases hz with ⟨z1, rfl⟩ | ⟨d, d1, d2, rfl⟩
      · exact absurd c3 (by rw [Int32.le_iff_toInt_le, nI_toInt (by omega)]; have : (-(nI 1)).toInt = -1 := (by decide); omega)
      · rw [d2]
        by_cases c4 : zRA v (nI l) (nI b) (nI s) (zBR v (nI l) (nI b) (nI s) n) n = nI 0
        · rw [if_pos c4, if_pos c3]
        · rw [if_neg c4, if_pos]
          rw [Int32.le_iff_toInt_le, nI_toInt (by omega)]
          have : (-(nI 6)).toInt = -6 := by decide
          omega
    · refine zgo hC0 47 4 rfl ?_
      refine zcallV hC0 (mX4_wouldPass v u (nI l) b (nI s) n hb hm hl hr) vX4_wouldPass lk4_165 (by decide +kernel : decode cX4_bestBill 85 = .ok (.invokevirtual 165, 3)) rfl rfl rfl (Nat.le_of_ble_eq_true rfl) (Nat.le_of_ble_eq_true rfl) (Nat.le_of_ble_eq_true rfl) ?_
      refine zgo hC0 52 1 rfl ?_
      refine And.intro (fun c4 => no _ ?_) (fun c4 => ?_)
      · rw [eq, if_neg (of_decide_eq_false (b2i_f c4)), if_pos]
        rcases hz with ⟨z1, rfl⟩ | ⟨d, d1, d2, rfl⟩
        · rw [z1]; exact Int32.le_refl _
        · rw [d2, Int32.le_iff_toInt_le, nI_toInt (by omega)]
          have : (-(nI 6)).toInt = -6 := by decide
          omega
      · have e5 : B (i + 1) = (nI 100 * nI l + nI 10 * nI b + nI s, nI c) := by
          rw [eq, if_pos (of_decide_eq_true (b2i_t c4)), if_neg]
          rcases hz with ⟨z1, rfl⟩ | ⟨d, d1, d2, rfl⟩
          · rw [z1, Int32.le_iff_toInt_le, nI_toInt (by omega)]
            have : (-(nI 6)).toInt = -6 := by decide
            omega
          · rw [d2]; exact c3
        refine zgo hC0 53 12 rfl ?_
        refine zmask hC0 [true, true, true, true, false, false, false, false] ?_
        refine zgo hC0 65 2 rfl ?_
        exact ih _ _ _ (by rw [e5]; rfl) (by rw [e5]; exact Or.inr ⟨c, hc, rfl, rfl⟩) (nI_add i 1)
set_option maxHeartbeats 2000000 in
set_option maxRecDepth 20000 in
theorem mX4_wipe (u : CV) : ZM yX4_wipe cX4_wipe 2 (some .int) 0 0 [.ref 0] (hM u) (some (.int (u 6 0))) (hM (vup u 6 (upd (u 6) 0 (nI 0)))) := by
  refine zm_of 4 qX4_wipe rfl rfl kX4_wipe rfl (Nat.le_of_ble_eq_true rfl) (fun C hC0 => ?_)
  refine zgo hC0 0 8 rfl ?_
  exact ⟨rfl, rfl, rfl⟩
set_option maxHeartbeats 2000000 in
set_option maxRecDepth 20000 in
theorem mX4_isSlot (x : Int32) (h : List ZC) : ZM yX4_isSlot cX4_isSlot 1 (some .boolean) 0 0 [.int x] h (some (.int (b2i (zbt (nI 0) (nI 2) x)))) h := by
  refine zm_of 4 qX4_isSlot rfl rfl kX4_isSlot rfl (Nat.le_of_ble_eq_true rfl) (fun C hC0 => ?_)
  have hz : zbt (nI 0) (nI 2) x = (decide (x = 0) || decide (x = nI 1)) := by
    rw [Bool.eq_iff_iff]
    unfold zbt
    simp only [Bool.or_eq_true, Bool.and_eq_true, decide_eq_true_eq]
    rw [Int32.lt_iff_toInt_lt, Int32.le_iff_toInt_le, ← Int32.toInt_inj, ← Int32.toInt_inj, nI_toInt (by decide), nI_toInt (by decide), nI_toInt (by decide)]
    have : (0 : Int32).toInt = 0 := rfl
    omega
  rw [hz] at hC0
  refine zgo hC0 0 2 rfl ?_
  refine And.intro (fun (c : x = 0) => ?_) (fun (c : ¬ x = 0) => ?_)
  · refine zgo hC0 5 2 rfl ?_
    refine zgo hC0 8 1 rfl ?_
    exact zret_b (zb1 (by rw [decide_eq_true c]; rfl))
  · refine zgo hC0 2 3 rfl ?_
    refine And.intro (fun (c2 : ¬ x = nI 1) => ?_) (fun (c2 : x = nI 1) => ?_)
    · refine zgo hC0 7 2 rfl ?_
      exact zret_b (zb0 (by rw [decide_eq_false c, decide_eq_false c2]; rfl))
    · refine zgo hC0 5 2 rfl ?_
      refine zgo hC0 8 1 rfl ?_
      exact zret_b (zb1 (by rw [decide_eq_true c2, Bool.or_true]))
/-- the row out of another -/
def zow (f g : Nat → Int32) (b : Nat) : Nat → Int32 := zcp f (fun i => g (b + i)) 0 596
theorem zcp_at {f g : Nat → Int32} {b p : Nat} (h : p < 596) : zcp f g b 596 (b + p) = g p := by
  rw [zcp, if_pos (by omega), Nat.add_sub_cancel_left]
theorem zow_at {f g : Nat → Int32} {b p : Nat} (h : p < 596) : zow f g b p = g (b + p) := by
  have := zcp_at (f := f) (g := fun i => g (b + i)) (b := 0) h
  rw [Nat.zero_add] at this
  exact this
theorem RM_ext {v : CV} {a c : Nat → Int32} (hr : RM v a) (h : ∀ p, p < 596 → c p = a p) : RM v c := by
  obtain ⟨h1, h2, h3, h4, h5, h6⟩ := hr
  refine ⟨fun i hi => ?_, ?_, ?_, ?_, fun k hk => ?_, fun j w hj hw => ?_⟩
  · rw [h _ (by omega), h1 i hi]
  · rw [h _ (by omega), h2]
  · rw [h _ (by omega), h3]
  · rw [h _ (by omega), h4]
  · rw [h _ (by omega), h5 k hk]
  · rw [h _ (by omega), h6 j w hj hw]
theorem zrw (k i : Nat) : nI 596 * nI k + nI i = nI (596 * k + i) := by rw [pk_mul, nI_add]
set_option maxHeartbeats 2000000 in
set_option maxRecDepth 20000 in
theorem mX4_undo_f (u : CV) (h2 : u 2 0 = nI 0) : ZM yX4_undo cX4_undo 2 (some .int) 0 0 [.ref 0] (hM u) (some (.int (-(nI 5)))) (hM u) := by
  refine zm_of 4 qX4_undo rfl rfl kX4_undo rfl (Nat.le_of_ble_eq_true rfl) (fun C hC0 => ?_)
  refine zgo hC0 0 3 rfl ?_
  refine And.intro (fun c => absurd h2 c) (fun _ => ?_)
  refine zgo hC0 3 2 rfl ?_
  exact zret_i rfl
set_option maxHeartbeats 2000000 in
set_option maxRecDepth 20000 in
theorem mX4_undo_t (u : CV) (k : Nat) (hk : k < 6) (h2 : u 2 0 = nI (k + 1)) : ZM yX4_undo cX4_undo 2 (some .int) 0 0 [.ref 0] (hM u) (some (.int (nI k))) (hM (vup (vup u 2 (upd (u 2) 0 (nI k))) 0 (zow (u 0) (u 1) (596 * k)))) := by
  refine zm_of 4 qX4_undo rfl rfl kX4_undo rfl (Nat.le_of_ble_eq_true rfl) (fun C hC0 => ?_)
  refine zgo hC0 0 3 rfl ?_
  refine And.intro (fun _ => ?_) (fun (c : u 2 0 = 0) => absurd (h2.symm.trans c) (nI_ne0 (by omega) (by omega)))
  refine zgo hC0 5 8 rfl ?_
  show C 22 [some (.ref 0), some (.int (nI 0))] [] (hM (vup u 2 (upd (u 2) 0 (u 2 0 - nI 1))))
  rw [h2, show nI (k + 1) - nI 1 = nI k from nI_pred k]
  rw [show hM (vup u 2 (upd (u 2) 0 (nI k))) = hM (vup (vup u 2 (upd (u 2) 0 (nI k))) 0 (zcp (u 0) (fun i => u 1 (596 * k + i)) 0 0)) by rw [zcp_0]; rfl]
  refine zloop 596 (fun i => ∀ y, y = nI i → C 22 [some (.ref 0), some (.int y)] [] (hM (vup (vup u 2 (upd (u 2) 0 (nI k))) 0 (zcp (u 0) (fun i => u 1 (596 * k + i)) 0 i)))) ?_ ?_ _ rfl
  · rintro y rfl
    refine zgo hC0 13 3 rfl ?_
    refine And.intro (fun _ => ?_) (fun c => absurd (nI_le (Nat.le_refl 596) (by decide)) c)
    refine zgo hC0 31 3 rfl ?_
    exact zret_i rfl
  · rintro i hi ih y rfl
    refine zgo hC0 13 3 rfl ?_
    refine And.intro (fun c => absurd c (nI_ge hi (by decide))) (fun _ => ?_)
    refine zgo hC0 16 15 rfl ?_
    refine And.intro ?_ (And.intro (vp_in_nI (N := 596) hi (by decide)) ?_)
    · show vp_in (nI 596 * nI k + nI i) 3576
      rw [zrw]
      exact vp_in_nI (by omega) (by decide)
    show C 22 [some (.ref 0), some (.int (nI i + nI 1))] [] (hM (vup (vup u 2 (upd (u 2) 0 (nI k))) 0 (upd (zcp (u 0) (fun i => u 1 (596 * k + i)) 0 i) (nI i).toNatClampNeg (u 1 (nI 596 * nI k + nI i).toNatClampNeg))))
    rw [zrw, nI_clamp (show i < 2 ^ 31 by omega), nI_clamp (show 596 * k + i < 2 ^ 31 by omega)]
    have hz := zcp_s (u 0) (fun i => u 1 (596 * k + i)) 0 i
    rw [Nat.zero_add] at hz
    rw [hz]
    exact ih _ (nI_add i 1)
set_option maxHeartbeats 2000000 in
set_option maxRecDepth 20000 in
theorem mX4_save_f (u : CV) (x : Int32) (hs : zbt (nI 0) (nI 2) x = false) : ZM yX4_save cX4_save 3 (some .int) 3 66 [.ref 0, .int x] (hM u) (some (.int (-(nI 2)))) (hM u) := by
  refine zm_of 4 qX4_save rfl rfl kX4_save rfl (Nat.le_of_ble_eq_true rfl) (fun C hC0 => ?_)
  refine zgo hC0 0 1 rfl ?_
  refine zcallS hC0 (mX4_isSlot x (hM u)) vX4_isSlot lk4_197 (by decide +kernel : decode cX4_save 1 = .ok (.invokestatic 197, 3)) rfl rfl (Nat.le_of_ble_eq_true rfl) (Nat.le_of_ble_eq_true rfl) (Nat.le_of_ble_eq_true rfl) ?_
  rw [hs]
  refine zgo hC0 2 1 rfl ?_
  refine And.intro (fun c => absurd rfl c) (fun _ => ?_)
  refine zgo hC0 3 2 rfl ?_
  exact zret_i rfl
set_option maxHeartbeats 2000000 in
set_option maxRecDepth 20000 in
theorem mX4_save_t (v u : CV) (j : Nat) (hj : j < 2) (n : Nat) (hm : WM v n) (hr : RM v (u 0)) : ZM yX4_save cX4_save 3 (some .int) 3 66 [.ref 0, .int (nI j)] (hM u) (some (.int (nI (cnt (iF v) n)))) (hM (vup (vup u 3 (zcp (u 3) (u 0) (596 * j) 596)) 4 (upd (u 4) j (nI 1)))) := by
  refine zm_of 4 qX4_save rfl rfl kX4_save rfl (Nat.le_of_ble_eq_true rfl) (fun C hC0 => ?_)
  have hs : zbt (nI 0) (nI 2) (nI j) = true := zbt_t (nI_pos (by omega)) (nI_ge hj (by decide))
  have e : (nI j).toNatClampNeg = j := nI_clamp (by omega)
  refine zgo hC0 0 1 rfl ?_
  refine zcallS hC0 (mX4_isSlot (nI j) (hM u)) vX4_isSlot lk4_197 (by decide +kernel : decode cX4_save 1 = .ok (.invokestatic 197, 3)) rfl rfl (Nat.le_of_ble_eq_true rfl) (Nat.le_of_ble_eq_true rfl) (Nat.le_of_ble_eq_true rfl) ?_
  rw [hs]
  refine zgo hC0 2 1 rfl ?_
  refine And.intro (fun _ => ?_) (fun c => absurd c (by decide))
  rw [show hM u = hM (vup u 3 (zcp (u 3) (u 0) (596 * j) 0)) by rw [zcp_0]; rfl]
  refine zgo hC0 5 2 rfl ?_
  refine zloop 596 (fun i => ∀ y, y = nI i → C 12 [some (.ref 0), some (.int (nI j)), some (.int y)] [] (hM (vup u 3 (zcp (u 3) (u 0) (596 * j) i)))) ?_ ?_ _ rfl
  · rintro y rfl
    refine zgo hC0 7 3 rfl ?_
    refine And.intro (fun _ => ?_) (fun c => absurd (nI_le (Nat.le_refl 596) (by decide)) c)
    refine zgo hC0 24 7 rfl ?_
    refine And.intro (vp_in_nI (N := 2) hj (by decide)) ?_
    show C 53 _ [.int (-(nI 6)), .ref 0] (hM (vup (vup u 3 (zcp (u 3) (u 0) (596 * j) 596)) 4 (upd (u 4) (nI j).toNatClampNeg (nI 1))))
    rw [e]
    refine zcallV hC0 (mX4_inForce v (vup (vup u 3 (zcp (u 3) (u 0) (596 * j) 596)) 4 (upd (u 4) j (nI 1))) (-(nI 6)) n hm hr) vX4_inForce lk4_80 (by decide +kernel : decode cX4_save 53 = .ok (.invokevirtual 80, 3)) rfl rfl rfl (Nat.le_of_ble_eq_true rfl) (Nat.le_of_ble_eq_true rfl) (Nat.le_of_ble_eq_true rfl) ?_
    rw [iFT_all]
    refine zgo hC0 32 1 rfl ?_
    exact zret_i rfl
  · rintro i hi ih y rfl
    refine zgo hC0 7 3 rfl ?_
    refine And.intro (fun c => absurd c (nI_ge hi (by decide))) (fun _ => ?_)
    refine zgo hC0 10 14 rfl ?_
    refine And.intro (vp_in_nI (N := 596) hi (by decide)) (And.intro ?_ ?_)
    · show vp_in (nI 596 * nI j + nI i) 1192
      rw [zrw]
      exact vp_in_nI (by omega) (by decide)
    show C 12 [some (.ref 0), some (.int (nI j)), some (.int (nI i + nI 1))] [] (hM (vup u 3 (upd (zcp (u 3) (u 0) (596 * j) i) (nI 596 * nI j + nI i).toNatClampNeg (u 0 (nI i).toNatClampNeg))))
    rw [zrw, nI_clamp (show i < 2 ^ 31 by omega), nI_clamp (show 596 * j + i < 2 ^ 31 by omega), zcp_s]
    exact ih _ (nI_add i 1)
set_option maxHeartbeats 2000000 in
set_option maxRecDepth 20000 in
theorem mX4_restore_f (u : CV) (x : Int32) (hs : zbt (nI 0) (nI 2) x = false) : ZM yX4_restore cX4_restore 3 (some .int) 3 66 [.ref 0, .int x] (hM u) (some (.int (-(nI 2)))) (hM u) := by
  refine zm_of 4 qX4_restore rfl rfl kX4_restore rfl (Nat.le_of_ble_eq_true rfl) (fun C hC0 => ?_)
  refine zgo hC0 0 1 rfl ?_
  refine zcallS hC0 (mX4_isSlot x (hM u)) vX4_isSlot lk4_197 (by decide +kernel : decode cX4_restore 1 = .ok (.invokestatic 197, 3)) rfl rfl (Nat.le_of_ble_eq_true rfl) (Nat.le_of_ble_eq_true rfl) (Nat.le_of_ble_eq_true rfl) ?_
  rw [hs]
  refine zgo hC0 2 1 rfl ?_
  refine And.intro (fun c => absurd rfl c) (fun _ => ?_)
  refine zgo hC0 3 2 rfl ?_
  exact zret_i rfl
set_option maxHeartbeats 2000000 in
set_option maxRecDepth 20000 in
theorem mX4_restore_g (u : CV) (j : Nat) (hj : j < 2) (hf : u 4 j = nI 0) : ZM yX4_restore cX4_restore 3 (some .int) 3 66 [.ref 0, .int (nI j)] (hM u) (some (.int (-(nI 5)))) (hM u) := by
  refine zm_of 4 qX4_restore rfl rfl kX4_restore rfl (Nat.le_of_ble_eq_true rfl) (fun C hC0 => ?_)
  have hs : zbt (nI 0) (nI 2) (nI j) = true := zbt_t (nI_pos (by omega)) (nI_ge hj (by decide))
  have e : (nI j).toNatClampNeg = j := nI_clamp (by omega)
  refine zgo hC0 0 1 rfl ?_
  refine zcallS hC0 (mX4_isSlot (nI j) (hM u)) vX4_isSlot lk4_197 (by decide +kernel : decode cX4_restore 1 = .ok (.invokestatic 197, 3)) rfl rfl (Nat.le_of_ble_eq_true rfl) (Nat.le_of_ble_eq_true rfl) (Nat.le_of_ble_eq_true rfl) ?_
  rw [hs]
  refine zgo hC0 2 1 rfl ?_
  refine And.intro (fun _ => ?_) (fun c => absurd c (by decide))
  refine zgo hC0 5 5 rfl ?_
  refine And.intro (vp_in_nI (N := 2) hj (by decide)) (And.intro (fun (c : ¬ u 4 (nI j).toNatClampNeg = nI 0) => absurd (by rw [e]; exact hf) c) (fun _ => ?_))
  refine zgo hC0 10 2 rfl ?_
  exact zret_i rfl
set_option maxHeartbeats 2000000 in
set_option maxRecDepth 20000 in
theorem mX4_restore_t (w u : CV) (k j : Nat) (hj : j < 2) (n : Nat) (hm : WM w n) (hr : RM w (fun i => u 3 (596 * j + i))) (hk : k ≤ 6) (h2 : u 2 0 = nI k) (hf : ¬ u 4 j = nI 0) : ZM yX4_restore cX4_restore 3 (some .int) 3 66 [.ref 0, .int (nI j)] (hM u) (some (.int (nI (cnt (iF w) n)))) (hM (vup (zcc u k) 0 (zow (u 0) (u 3) (596 * j)))) := by
  refine zm_of 4 qX4_restore rfl rfl kX4_restore rfl (Nat.le_of_ble_eq_true rfl) (fun C hC0 => ?_)
  have hs : zbt (nI 0) (nI 2) (nI j) = true := zbt_t (nI_pos (by omega)) (nI_ge hj (by decide))
  have e : (nI j).toNatClampNeg = j := nI_clamp (by omega)
  refine zgo hC0 0 1 rfl ?_
  refine zcallS hC0 (mX4_isSlot (nI j) (hM u)) vX4_isSlot lk4_197 (by decide +kernel : decode cX4_restore 1 = .ok (.invokestatic 197, 3)) rfl rfl (Nat.le_of_ble_eq_true rfl) (Nat.le_of_ble_eq_true rfl) (Nat.le_of_ble_eq_true rfl) ?_
  rw [hs]
  refine zgo hC0 2 1 rfl ?_
  refine And.intro (fun _ => ?_) (fun c => absurd c (by decide))
  refine zgo hC0 5 5 rfl ?_
  refine And.intro (vp_in_nI (N := 2) hj (by decide)) (And.intro (fun _ => ?_) (fun (c : u 4 (nI j).toNatClampNeg = nI 0) => absurd (by rw [← e]; exact c) hf))
  refine zgo hC0 12 1 rfl ?_
  refine zcallV hC0 (mX4_changes u k hk h2) vX4_changes lk4_100 (by decide +kernel : decode cX4_restore 23 = .ok (.invokevirtual 100, 3)) rfl rfl rfl (Nat.le_of_ble_eq_true rfl) (Nat.le_of_ble_eq_true rfl) (Nat.le_of_ble_eq_true rfl) ?_
  rw [show hM (zcc u k) = hM (vup (zcc u k) 0 (zcp (u 0) (fun i => u 3 (596 * j + i)) 0 0)) by rw [zcp_0]; rfl]
  refine zgo hC0 14 2 rfl ?_
  refine zloop 596 (fun i => ∀ y, y = nI i → C 28 [some (.ref 0), some (.int (nI j)), some (.int y)] [] (hM (vup (zcc u k) 0 (zcp (u 0) (fun i => u 3 (596 * j + i)) 0 i)))) ?_ ?_ _ rfl
  · rintro y rfl
    refine zgo hC0 16 3 rfl ?_
    refine And.intro (fun _ => ?_) (fun c => absurd (nI_le (Nat.le_refl 596) (by decide)) c)
    refine zgo hC0 33 2 rfl ?_
    refine zcallV hC0 (mX4_inForce w (vup (zcc u k) 0 (zow (u 0) (u 3) (596 * j))) (-(nI 6)) n hm (RM_ext hr (fun p hp => zow_at hp))) vX4_inForce lk4_80 (by decide +kernel : decode cX4_restore 62 = .ok (.invokevirtual 80, 3)) rfl rfl rfl (Nat.le_of_ble_eq_true rfl) (Nat.le_of_ble_eq_true rfl) (Nat.le_of_ble_eq_true rfl) ?_
    rw [iFT_all]
    refine zgo hC0 36 1 rfl ?_
    exact zret_i rfl
  · rintro i hi ih y rfl
    refine zgo hC0 16 3 rfl ?_
    refine And.intro (fun c => absurd c (nI_ge hi (by decide))) (fun _ => ?_)
    refine zgo hC0 19 14 rfl ?_
    refine And.intro ?_ (And.intro (vp_in_nI (N := 596) hi (by decide)) ?_)
    · show vp_in (nI 596 * nI j + nI i) 1192
      rw [zrw]
      exact vp_in_nI (by omega) (by decide)
    show C 28 [some (.ref 0), some (.int (nI j)), some (.int (nI i + nI 1))] [] (hM (vup (zcc u k) 0 (upd (zcp (u 0) (fun i => u 3 (596 * j + i)) 0 i) (nI i).toNatClampNeg (u 3 (nI 596 * nI j + nI i).toNatClampNeg))))
    rw [zrw, nI_clamp (show i < 2 ^ 31 by omega), nI_clamp (show 596 * j + i < 2 ^ 31 by omega)]
    have hz := zcp_s (u 0) (fun i => u 3 (596 * j + i)) 0 i
    rw [Nat.zero_add] at hz
    rw [hz]
    exact ih _ (nI_add i 1)
