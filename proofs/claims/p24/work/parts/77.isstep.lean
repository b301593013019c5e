/-! isStep -/
set_option maxHeartbeats 4000000 in
set_option maxRecDepth 20000 in
theorem l_isStep {S : Nat} {x y : ZX} (hS0 : S < 2 ^ 20) (h : RR S x y) (a b : Int32) : ∃ x2 y2, RR (S + 6) x2 y2 ∧ ZM yL_isStep cL_isStep 14 (some .boolean) 8 188 [.ref 0, .ref 97, .int a, .int b] (hLL x y) (some (.int (b2i true))) (hLL x2 y2) := by
  obtain ⟨-, ⟨n, s, hG, hM⟩, -⟩ := id h
  have hm := hG.1
  have uniq : ∀ n2, WM x.v n2 → n2 = n := fun n2 h2 => (mk_eq h2).symm.trans (mk_eq hm)
  obtain ⟨j, hj, ej⟩ : ∃ j, j < 18 ∧ upn a 18 = j := ⟨_, upn_lt a (by decide), rfl⟩
  have pre : ∀ x2 y2 : ZX, (∀ C : ZP, zR 5 cL_isStep qL_isStep 14 8 188 (zR1 (some .boolean) (some (.int (b2i true))) (hLL x2 y2)) (zR0 (some .boolean) (some (.int (b2i true))) (hLL x2 y2)) C → C 18 (sS a b (a >>> (nI 4 &&& 31)) n) [.int (nI j)] (hLL x y)) → ZM yL_isStep cL_isStep 14 (some .boolean) 8 188 [.ref 0, .ref 97, .int a, .int b] (hLL x y) (some (.int (b2i true))) (hLL x2 y2) := by
    intro x2 y2 k
    refine zm_of 5 qL_isStep rfl rfl kL_isStep (hLL_l2 _ _ _ _) (Nat.le_of_ble_eq_true rfl) (fun C hC0 => ?_)
    refine zgo hC0 0 6 rfl ?_
    refine zcallVb (sg := zbl 0 97) hC0 (o_count x (j := 4) (by decide) hm) (lSBo _ _ _) lnd1 (Nat.le_of_ble_eq_true rfl) vX3_count lk5_33 (by decide +kernel : decode cL_isStep 7 = .ok (.invokevirtual 33, 3)) rfl rfl rfl (Nat.le_of_ble_eq_true rfl) (Nat.le_of_ble_eq_true rfl) (Nat.le_of_ble_eq_true rfl) ?_
    refine zgo hC0 7 3 rfl ?_
    show C 15 [some (.ref 0), some (.ref 97), some (.int a), some (.int b), some (.int (a >>> (nI 4 &&& 31))), some (.int (x.v 9 0)), none, none, none, none, none, none, none, none] [.int (nI 18), .int a] (hLL x y)
    rw [hm.1]
    refine zcallS hC0 (mL_up a 18 (by decide) (by decide) _) vL_up lk5_27 (by decide +kernel : decode cL_isStep 15 = .ok (.invokestatic 27, 3)) rfl rfl (Nat.le_of_ble_eq_true rfl) (Nat.le_of_ble_eq_true rfl) (Nat.le_of_ble_eq_true rfl) ?_
    rw [ej]
    exact k C hC0
  rcases (show j = 0 ∨ (j = 1 ∨ j = 2 ∨ j = 3 ∨ j = 4) ∨ j = 5 ∨ j = 6 ∨ j = 7 ∨ j = 8 ∨ j = 9 ∨ (j = 10 ∨ j = 11 ∨ j = 12 ∨ j = 13 ∨ j = 14 ∨ j = 15 ∨ j = 16 ∨ j = 17) by omega) with rfl | hj4 | rfl | rfl | rfl | rfl | rfl | hj9
  · obtain ⟨x2, y2, hR, hC⟩ := s_set h a b (a >>> (nI 4 &&& 31)) n
    refine ⟨x2, y2, hR.up (by omega), pre x2 y2 (fun C hC0 => ?_)⟩
    refine zswI hC0 (by decide +kernel : decode cL_isStep 18 = .ok (.tableswitch 537 0 9 #[54, 153, 153, 153, 153, 246, 350, 434, 460, 528], 54)) (tgt := 72) (by decide +kernel) (54) (by decide +kernel) (by decide) ?_
    exact hC C hC0
  · obtain ⟨x2, y2, hR, hC⟩ := s_wish h a b (a >>> (nI 4 &&& 31)) n
    refine ⟨x2, y2, hR.up (by omega), pre x2 y2 (fun C hC0 => ?_)⟩
    rcases hj4 with rfl | rfl | rfl | rfl
    · refine zswI hC0 (by decide +kernel : decode cL_isStep 18 = .ok (.tableswitch 537 0 9 #[54, 153, 153, 153, 153, 246, 350, 434, 460, 528], 54)) (tgt := 171) (by decide +kernel) (153) (by decide +kernel) (by decide) ?_
      exact hC C hC0
    · refine zswI hC0 (by decide +kernel : decode cL_isStep 18 = .ok (.tableswitch 537 0 9 #[54, 153, 153, 153, 153, 246, 350, 434, 460, 528], 54)) (tgt := 171) (by decide +kernel) (153) (by decide +kernel) (by decide) ?_
      exact hC C hC0
    · refine zswI hC0 (by decide +kernel : decode cL_isStep 18 = .ok (.tableswitch 537 0 9 #[54, 153, 153, 153, 153, 246, 350, 434, 460, 528], 54)) (tgt := 171) (by decide +kernel) (153) (by decide +kernel) (by decide) ?_
      exact hC C hC0
    · refine zswI hC0 (by decide +kernel : decode cL_isStep 18 = .ok (.tableswitch 537 0 9 #[54, 153, 153, 153, 153, 246, 350, 434, 460, 528], 54)) (tgt := 171) (by decide +kernel) (153) (by decide +kernel) (by decide) ?_
      exact hC C hC0
  · obtain ⟨x2, y2, hR, n2, hm2, hC⟩ := s_repeal hS0 h a b (a >>> (nI 4 &&& 31))
    rw [uniq n2 hm2] at hC
    refine ⟨x2, y2, hR.up (by omega), pre x2 y2 (fun C hC0 => ?_)⟩
    refine zswI hC0 (by decide +kernel : decode cL_isStep 18 = .ok (.tableswitch 537 0 9 #[54, 153, 153, 153, 153, 246, 350, 434, 460, 528], 54)) (tgt := 264) (by decide +kernel) (246) (by decide +kernel) (by decide) ?_
    exact hC C hC0
  · obtain ⟨x2, y2, hR, n2, hm2, hC⟩ := s_end h a b (a >>> (nI 4 &&& 31))
    rw [uniq n2 hm2] at hC
    refine ⟨x2, y2, hR.up (by omega), pre x2 y2 (fun C hC0 => ?_)⟩
    refine zswI hC0 (by decide +kernel : decode cL_isStep 18 = .ok (.tableswitch 537 0 9 #[54, 153, 153, 153, 153, 246, 350, 434, 460, 528], 54)) (tgt := 368) (by decide +kernel) (350) (by decide +kernel) (by decide) ?_
    exact hC C hC0
  · obtain ⟨x2, y2, hR, hC⟩ := s_undo h a b (a >>> (nI 4 &&& 31)) n
    refine ⟨x2, y2, hR.up (by omega), pre x2 y2 (fun C hC0 => ?_)⟩
    refine zswI hC0 (by decide +kernel : decode cL_isStep 18 = .ok (.tableswitch 537 0 9 #[54, 153, 153, 153, 153, 246, 350, 434, 460, 528], 54)) (tgt := 452) (by decide +kernel) (434) (by decide +kernel) (by decide) ?_
    exact hC C hC0
  · obtain ⟨x2, y2, hR, hC⟩ := s_slot h a b (a >>> (nI 4 &&& 31)) n
    refine ⟨x2, y2, hR.up (by omega), pre x2 y2 (fun C hC0 => ?_)⟩
    refine zswI hC0 (by decide +kernel : decode cL_isStep 18 = .ok (.tableswitch 537 0 9 #[54, 153, 153, 153, 153, 246, 350, 434, 460, 528], 54)) (tgt := 478) (by decide +kernel) (460) (by decide +kernel) (by decide) ?_
    exact hC C hC0
  · obtain ⟨x2, y2, hR, hZ⟩ := l_isRead hS0 h b (a >>> (nI 4 &&& 31))
    refine ⟨x2, y2, hR, pre x2 y2 (fun C hC0 => ?_)⟩
    refine zswI hC0 (by decide +kernel : decode cL_isStep 18 = .ok (.tableswitch 537 0 9 #[54, 153, 153, 153, 153, 246, 350, 434, 460, 528], 54)) (tgt := 546) (by decide +kernel) (528) (by decide +kernel) (by decide) ?_
    refine zgo hC0 252 4 rfl ?_
    refine zcallS hC0 hZ vL_isRead lk5_74 (by decide +kernel : decode cL_isStep 551 = .ok (.invokestatic 74, 3)) rfl rfl (Nat.le_of_ble_eq_true rfl) (Nat.le_of_ble_eq_true rfl) (Nat.le_of_ble_eq_true rfl) ?_
    refine zgo hC0 257 1 rfl ?_
    exact zret_b rfl
  · obtain ⟨x2, y2, hR, n2, hm2, hC⟩ := s_prop hS0 h a b (a >>> (nI 4 &&& 31))
    rw [uniq n2 hm2] at hC
    refine ⟨x2, y2, hR.up (by omega), pre x2 y2 (fun C hC0 => ?_)⟩
    have ho : (nI j).toInt < 0 ∨ 9 < (nI j).toInt := by
      rw [nI_toInt (by omega)]
      omega
    refine zswO hC0 (by decide +kernel : decode cL_isStep 18 = .ok (.tableswitch 537 0 9 #[54, 153, 153, 153, 153, 246, 350, 434, 460, 528], 54)) (tgt := 555) (ho) (by decide) ?_
    exact hC C hC0
