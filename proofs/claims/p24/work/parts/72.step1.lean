/-! isStep: set, wish -/
set_option maxHeartbeats 2000000 in
set_option maxRecDepth 20000 in
theorem s_set {S : Nat} {x y : ZX} (h : RR S x y) (a b z : Int32) (L : Nat) : ∃ x2 y2, RR S x2 y2 ∧ SG x y x2 y2 72 (sS a b z L) := by
  obtain ⟨⟨e1, e2, e3, e4, e5, e6⟩, ⟨n, s, hG, hM⟩, hH, hV⟩ := id h
  have hm := hG.1
  obtain ⟨j, hj, ej⟩ : ∃ j, j < 3 ∧ upn z 3 = j := ⟨_, upn_lt z (by decide), rfl⟩
  obtain ⟨val, hs, hval⟩ : ∃ val, zsok (nI j) (nI val) = true ∧ ((j = 0 ∧ val = 1 + upn b 5) ∨ (j = 1 ∧ val = 1 + upn b 16) ∨ (j = 2 ∧ val = upn b 10)) := by
    have ok : ∀ val, zlo3 j ≤ val → val ≤ zhi3 j → val < 100 → zhi3 j < 100 → zsok (nI j) (nI val) = true := by
      intro val h1 h2 h3 h4
      rw [zsok, zix_at hj (by decide)]
      exact zand_t (decide_eq_true (nI_nlt h1 (by omega))) (decide_eq_true (nI_nlt h2 (by omega)))
    have u5 := upn_lt b (m := 5) (by decide)
    have u16 := upn_lt b (m := 16) (by decide)
    have u10 := upn_lt b (m := 10) (by decide)
    rcases (show j = 0 ∨ j = 1 ∨ j = 2 by omega) with rfl | rfl | rfl
    · exact ⟨_, ok _ (show 1 ≤ 1 + upn b 5 by omega) (show 1 + upn b 5 ≤ 5 by omega) (by omega) (by decide), Or.inl ⟨rfl, rfl⟩⟩
    · exact ⟨_, ok _ (show 1 ≤ 1 + upn b 16 by omega) (show 1 + upn b 16 ≤ 16 by omega) (by omega) (by decide), Or.inr (Or.inl ⟨rfl, rfl⟩)⟩
    · exact ⟨_, ok _ (Nat.zero_le _) (show upn b 10 ≤ 9 by omega) (by omega) (by decide), Or.inr (Or.inr ⟨rfl, rfl⟩)⟩
  refine ⟨x.rem (vup x.v 0 (upd (x.v 0) j (nI val))), y.rem (vup y.v 0 (upd (y.v 0) j (nI val))), RR_rem h (Nat.le_refl S) ⟨n, s, GW_set _ hG, mr_set hM _⟩, ?_⟩
  intro C hC0
  have c118 : C 118 [some (.ref 0), some (.ref 97), some (.int a), some (.int b), some (.int z), some (.int (nI L)), some (.int (nI j)), none, none, none, none, none, none, none] [.int (nI val)] (hLL x y) := by
    refine zgo hC0 36 3 rfl ?_
    refine zcallVb (sg := zbl 0 97) hC0 (o_cset x hj hm) (lSBo _ _ _) lnd1 (Nat.le_of_ble_eq_true rfl) vX3_count lk5_33 (by decide +kernel : decode cL_isStep 123 = .ok (.invokevirtual 33, 3)) rfl rfl rfl (Nat.le_of_ble_eq_true rfl) (Nat.le_of_ble_eq_true rfl) (Nat.le_of_ble_eq_true rfl) ?_
    refine zgo hC0 40 4 rfl ?_
    refine zcallVb (sg := zbl 0 97) hC0 (o_set x (nI val) hj e3 e4 hs) (lSBo _ _ _) lnd1 (Nat.le_of_ble_eq_true rfl) vX3_set lk5_46 (by decide +kernel : decode cL_isStep 133 = .ok (.invokevirtual 46, 3)) rfl rfl rfl (Nat.le_of_ble_eq_true rfl) (Nat.le_of_ble_eq_true rfl) (Nat.le_of_ble_eq_true rfl) ?_
    refine zgo hC0 45 2 rfl ?_
    refine And.intro (fun c => absurd (rfl) c) (fun _ => ?_)
    refine zgo hC0 47 3 rfl ?_
    refine zcallVb (sg := zbl 97 97) hC0 (o_set y (nI val) hj (by rw [← e1]; exact e3) (by rw [← e2]; exact e4) hs) (lSBp _ _ _) lnd2 (Nat.le_of_ble_eq_true rfl) vX3_set lk5_46 (by decide +kernel : decode cL_isStep 146 = .ok (.invokevirtual 46, 3)) rfl rfl rfl (Nat.le_of_ble_eq_true rfl) (Nat.le_of_ble_eq_true rfl) (Nat.le_of_ble_eq_true rfl) ?_
    refine zgo hC0 51 2 rfl ?_
    refine And.intro (fun c => absurd (hM.1 j hj) c) (fun _ => ?_)
    refine zgo hC0 53 2 rfl ?_
    refine zcallVb (sg := zbl 0 97) hC0 (o_cset (x.rem (vup x.v 0 (upd (x.v 0) j (nI val)))) (n := n) hj hm) (lSBo _ _ _) lnd1 (Nat.le_of_ble_eq_true rfl) vX3_count lk5_33 (by decide +kernel : decode cL_isStep 157 = .ok (.invokevirtual 33, 3)) rfl rfl rfl (Nat.le_of_ble_eq_true rfl) (Nat.le_of_ble_eq_true rfl) (Nat.le_of_ble_eq_true rfl) ?_
    refine zgo hC0 56 2 rfl ?_
    refine And.intro (fun c => absurd (upd_at) c) (fun _ => ?_)
    refine zgo hC0 58 2 rfl ?_
    refine zgo hC0 61 1 rfl ?_
    exact zret_b rfl
  refine zgo hC0 12 2 rfl ?_
  refine zcallS hC0 (mL_up z 3 (by decide) (by decide) (hLL x y)) vL_up lk5_27 (by decide +kernel : decode cL_isStep 75 = .ok (.invokestatic 27, 3)) rfl rfl (Nat.le_of_ble_eq_true rfl) (Nat.le_of_ble_eq_true rfl) (Nat.le_of_ble_eq_true rfl) ?_
  rw [ej]
  refine zgo hC0 15 3 rfl ?_
  rcases hval with ⟨rfl, rfl⟩ | ⟨rfl, rfl⟩ | ⟨rfl, rfl⟩
  · refine And.intro (fun c => absurd (rfl) c) (fun _ => ?_)
    refine zgo hC0 18 3 rfl ?_
    refine zcallS hC0 (mL_up b 5 (by decide) (by decide) (hLL x y)) vL_up lk5_27 (by decide +kernel : decode cL_isStep 88 = .ok (.invokestatic 27, 3)) rfl rfl (Nat.le_of_ble_eq_true rfl) (Nat.le_of_ble_eq_true rfl) (Nat.le_of_ble_eq_true rfl) ?_
    refine zgo hC0 22 2 rfl ?_
    rw [← nI_add] at c118
    exact c118
  · refine And.intro (fun _ => ?_) (fun c => absurd c (by decide))
    refine zgo hC0 24 3 rfl ?_
    refine And.intro (fun c => absurd (rfl) c) (fun _ => ?_)
    refine zgo hC0 27 3 rfl ?_
    refine zcallS hC0 (mL_up b 16 (by decide) (by decide) (hLL x y)) vL_up lk5_27 (by decide +kernel : decode cL_isStep 105 = .ok (.invokestatic 27, 3)) rfl rfl (Nat.le_of_ble_eq_true rfl) (Nat.le_of_ble_eq_true rfl) (Nat.le_of_ble_eq_true rfl) ?_
    refine zgo hC0 31 2 rfl ?_
    rw [← nI_add] at c118
    exact c118
  · refine And.intro (fun _ => ?_) (fun c => absurd c (by decide))
    refine zgo hC0 24 3 rfl ?_
    refine And.intro (fun _ => ?_) (fun c => absurd c (by decide))
    refine zgo hC0 33 2 rfl ?_
    refine zcallS hC0 (mL_up b 10 (by decide) (by decide) (hLL x y)) vL_up lk5_27 (by decide +kernel : decode cL_isStep 115 = .ok (.invokestatic 27, 3)) rfl rfl (Nat.le_of_ble_eq_true rfl) (Nat.le_of_ble_eq_true rfl) (Nat.le_of_ble_eq_true rfl) ?_
    exact c118
set_option maxHeartbeats 2000000 in
set_option maxRecDepth 20000 in
theorem s_wish {S : Nat} {x y : ZX} (h : RR S x y) (a b z : Int32) (L : Nat) : ∃ x2 y2, RR S x2 y2 ∧ SG x y x2 y2 171 (sS a b z L) := by
  obtain ⟨⟨e1, e2, e3, e4, e5, e6⟩, ⟨n, s, hG, hM⟩, hH, hV⟩ := id h
  have hm := hG.1
  obtain ⟨c, hc, ec⟩ : ∃ c, c < 5 ∧ upn z 5 = c := ⟨_, upn_lt z (by decide), rfl⟩
  obtain ⟨t, ht, et⟩ : ∃ t, t < 6 ∧ upn (z >>> (nI 3 &&& 31)) 6 = t := ⟨_, upn_lt _ (by decide), rfl⟩
  obtain ⟨u, hu, eu⟩ : ∃ u, u < 4 ∧ upn b 4 = u := ⟨_, upn_lt _ (by decide), rfl⟩
  have w1 : zWs2 (nI u) = true ∧ zWs2 (nx (nI u)) = true := by
    rcases (show u = 0 ∨ u = 1 ∨ u = 2 ∨ u = 3 by omega) with rfl | rfl | rfl | rfl <;> decide
  refine ⟨x.rem (vup x.v 1 (upd (x.v 1) (6 * c + t) (nI u))), y.rem (vup y.v 1 (upd (y.v 1) (6 * c + (5 - t)) (nx (nI u)))), RR_rem h (Nat.le_refl S) ⟨n, s, GW_wish _ hG, mr_wish hM ht _⟩, ?_⟩
  intro C hC0
  refine zgo hC0 62 2 rfl ?_
  refine zcallS hC0 (mL_up z 5 (by decide) (by decide) (hLL x y)) vL_up lk5_27 (by decide +kernel : decode cL_isStep 174 = .ok (.invokestatic 27, 3)) rfl rfl (Nat.le_of_ble_eq_true rfl) (Nat.le_of_ble_eq_true rfl) (Nat.le_of_ble_eq_true rfl) ?_
  rw [ec]
  refine zgo hC0 65 5 rfl ?_
  refine zcallS hC0 (mL_up (z >>> (nI 3 &&& 31)) 6 (by decide) (by decide) (hLL x y)) vL_up lk5_27 (by decide +kernel : decode cL_isStep 185 = .ok (.invokestatic 27, 3)) rfl rfl (Nat.le_of_ble_eq_true rfl) (Nat.le_of_ble_eq_true rfl) (Nat.le_of_ble_eq_true rfl) ?_
  rw [et]
  refine zgo hC0 71 3 rfl ?_
  refine zcallS hC0 (mL_up b 4 (by decide) (by decide) (hLL x y)) vL_up lk5_27 (by decide +kernel : decode cL_isStep 192 = .ok (.invokestatic 27, 3)) rfl rfl (Nat.le_of_ble_eq_true rfl) (Nat.le_of_ble_eq_true rfl) (Nat.le_of_ble_eq_true rfl) ?_
  rw [eu]
  refine zgo hC0 75 4 rfl ?_
  refine zcallVb (sg := zbl 0 97) hC0 (o_cw x hc ht hm) (lSBo _ _ _) lnd1 (Nat.le_of_ble_eq_true rfl) vX3_councillor lk5_49 (by decide +kernel : decode cL_isStep 202 = .ok (.invokevirtual 49, 3)) rfl rfl rfl (Nat.le_of_ble_eq_true rfl) (Nat.le_of_ble_eq_true rfl) (Nat.le_of_ble_eq_true rfl) ?_
  refine zgo hC0 80 5 rfl ?_
  refine zcallVb (sg := zbl 0 97) hC0 (o_wish x (nI u) hc ht e3 e4 w1.1) (lSBo _ _ _) lnd1 (Nat.le_of_ble_eq_true rfl) vX3_wish lk5_52 (by decide +kernel : decode cL_isStep 214 = .ok (.invokevirtual 52, 3)) rfl rfl rfl (Nat.le_of_ble_eq_true rfl) (Nat.le_of_ble_eq_true rfl) (Nat.le_of_ble_eq_true rfl) ?_
  refine zgo hC0 86 2 rfl ?_
  refine And.intro (fun c => absurd (rfl) c) (fun _ => ?_)
  refine zgo hC0 88 6 rfl ?_
  refine zcallS hC0 (mL_next (nI u) _) vL_next lk5_40 (by decide +kernel : decode cL_isStep 231 = .ok (.invokestatic 40, 3)) rfl rfl (Nat.le_of_ble_eq_true rfl) (Nat.le_of_ble_eq_true rfl) (Nat.le_of_ble_eq_true rfl) ?_
  refine zcallVb (sg := zbl 97 97) hC0 (q_wish y hM (nx (nI u)) hc ht (by rw [← e1]; exact e3) (by rw [← e2]; exact e4) w1.2) (lSBp _ _ _) lnd2 (Nat.le_of_ble_eq_true rfl) vX3_wish lk5_52 (by decide +kernel : decode cL_isStep 234 = .ok (.invokevirtual 52, 3)) rfl rfl rfl (Nat.le_of_ble_eq_true rfl) (Nat.le_of_ble_eq_true rfl) (Nat.le_of_ble_eq_true rfl) ?_
  refine zgo hC0 96 1 rfl ?_
  refine zcallS hC0 (mL_next (zWo x.v (nI c) (nI t)) _) vL_next lk5_40 (by decide +kernel : decode cL_isStep 239 = .ok (.invokestatic 40, 3)) rfl rfl (Nat.le_of_ble_eq_true rfl) (Nat.le_of_ble_eq_true rfl) (Nat.le_of_ble_eq_true rfl) ?_
  refine zgo hC0 98 1 rfl ?_
  refine And.intro (fun c => absurd (rfl) c) (fun _ => ?_)
  refine zgo hC0 99 3 rfl ?_
  refine zcallVb (sg := zbl 0 97) hC0 (o_cw (x.rem (vup x.v 1 (upd (x.v 1) (6 * c + t) (nI u)))) (n := n) hc ht hm) (lSBo _ _ _) lnd1 (Nat.le_of_ble_eq_true rfl) vX3_councillor lk5_49 (by decide +kernel : decode cL_isStep 250 = .ok (.invokevirtual 49, 3)) rfl rfl rfl (Nat.le_of_ble_eq_true rfl) (Nat.le_of_ble_eq_true rfl) (Nat.le_of_ble_eq_true rfl) ?_
  refine zgo hC0 103 2 rfl ?_
  refine And.intro (fun c => absurd ((zWo_at _ hc ht).trans upd_at) c) (fun _ => ?_)
  refine zgo hC0 105 2 rfl ?_
  refine zgo hC0 108 1 rfl ?_
  exact zret_b rfl
