/-! areAlike: its end -/
def aT (a b c : Int32) (z6 z7 : Option Value) : List (Option Value) := [some (.ref 0), some (.ref 97), some (.int a), some (.int (nI 1)), some (.int b), some (.int c), z6, z7]
section ALK2
variable {x y : ZX} {n : Nat}
set_option maxHeartbeats 4000000 in
set_option maxRecDepth 20000 in
theorem al5 {C : ZP} (hC0 : zR 5 cL_areAlike qL_areAlike 8 7 156 (zR1 (some .boolean) (some (.int (b2i true))) (hLL x y)) (zR0 (some .boolean) (some (.int (b2i true))) (hLL x y)) C) (hm : WM x.v n) (hM : MR n x.v y.v) (a : Int32) {i j c : Nat} (hi : i < 162) (hj : j < 162) (e18 : i / 18 = j / 18) (hc : c < 1000) (vi : bV x.v n i = nI c) (vj : bV y.v n j = nI c) (z6 z7 : Option Value) : C 539 (aT a (bC i) (bC j) z6 z7) [] (hLL x y) := by
  obtain ⟨b1, b2, b3, b4⟩ := bC_at i hi
  obtain ⟨c1, c2, c3, c4⟩ := bC_at j hj
  refine zgo hC0 269 12 rfl ?_
  refine And.intro (by decide) (And.intro (by decide) (And.intro (by decide) (And.intro (by decide) ?_)))
  show C 558 (aT a (bC i) (bC j) z6 z7) [.int (bC i - bC i / nI 10 * nI 10), .int (bC i / nI 10 - bC i / nI 10 / nI 10 * nI 10), .int (bC i / nI 100), .ref 0] (hLL x y)
  rw [b1, b2, b3]
  refine zcallVb (sg := zbl 0 97) hC0 (o_bestR x (nI (i / 18 + 1)) (nI (i / 3 % 6)) (nI (i % 3)) hm) (lSBo _ _ _) lnd1 (Nat.le_of_ble_eq_true rfl) vX3_bestRepeal lk5_78 (by decide +kernel : decode cL_areAlike 558 = .ok (.invokevirtual 78, 3)) rfl rfl rfl (Nat.le_of_ble_eq_true rfl) (Nat.le_of_ble_eq_true rfl) (Nat.le_of_ble_eq_true rfl) ?_
  refine zgo hC0 282 13 rfl ?_
  refine And.intro (by decide) (And.intro (by decide) (And.intro (by decide) (And.intro (by decide) ?_)))
  show C 582 [some (.ref 0), some (.ref 97), some (.int a), some (.int (nI 1)), some (.int (bC i)), some (.int (bC j)), some (.int (zBestR x.v (nI (i / 18 + 1)) (nI (i / 3 % 6)) (nI (i % 3)) n)), z7] [.int (bC j - bC j / nI 10 * nI 10), .int (bC j / nI 10 - bC j / nI 10 / nI 10 * nI 10), .int (bC j / nI 100), .ref 97] (hLL x y)
  rw [c1, c2, c3]
  refine zcallVb (sg := zbl 97 97) hC0 (o_bestR y (nI (j / 18 + 1)) (nI (j / 3 % 6)) (nI (j % 3)) (mr_WM hM hm)) (lSBp _ _ _) lnd2 (Nat.le_of_ble_eq_true rfl) vX3_bestRepeal lk5_78 (by decide +kernel : decode cL_areAlike 582 = .ok (.invokevirtual 78, 3)) rfl rfl rfl (Nat.le_of_ble_eq_true rfl) (Nat.le_of_ble_eq_true rfl) (Nat.le_of_ble_eq_true rfl) ?_
  refine zgo hC0 296 3 rfl ?_
  refine And.intro (fun c => absurd c (by decide)) (fun _ => ?_)
  refine zgo hC0 299 7 rfl ?_
  refine And.intro (by decide) (And.intro (by decide) (And.intro (fun q => absurd ?_ q) (fun _ => ?_)))
  · show bC i / nI 100 = bC j / nI 100
    rw [b1, c1, e18]
  refine zgo hC0 306 13 rfl ?_
  refine And.intro (by decide) (And.intro (by decide) (And.intro (by decide) (And.intro (by decide) ?_)))
  show C 625 [some (.ref 0), some (.ref 97), some (.int a), some (.int (nI 1)), some (.int (bC i)), some (.int (bC j)), some (.int (zBestR x.v (nI (i / 18 + 1)) (nI (i / 3 % 6)) (nI (i % 3)) n)), some (.int (zBestR y.v (nI (j / 18 + 1)) (nI (j / 3 % 6)) (nI (j % 3)) n))] [.int (zBestR x.v (nI (i / 18 + 1)) (nI (i / 3 % 6)) (nI (i % 3)) n), .int (bC i - bC i / nI 10 * nI 10), .int (bC i / nI 10 - bC i / nI 10 / nI 10 * nI 10), .int (bC i / nI 100), .ref 0] (hLL x y)
  rw [b1, b2, b3]
  refine zcallVb (sg := zbl 0 97) hC0 (o_votes x (nI (i / 18 + 1)) (nI (i / 3 % 6)) (nI (i % 3)) _ hm) (lSBo _ _ _) lnd1 (Nat.le_of_ble_eq_true rfl) vX3_votes lk5_94 (by decide +kernel : decode cL_areAlike 625 = .ok (.invokevirtual 94, 3)) rfl rfl rfl (Nat.le_of_ble_eq_true rfl) (Nat.le_of_ble_eq_true rfl) (Nat.le_of_ble_eq_true rfl) ?_
  refine zcallS hC0 (mL_bits _ _) vL_bits lk5_103 (by decide +kernel : decode cL_areAlike 628 = .ok (.invokestatic 103, 3)) rfl rfl (Nat.le_of_ble_eq_true rfl) (Nat.le_of_ble_eq_true rfl) (Nat.le_of_ble_eq_true rfl) ?_
  refine zgo hC0 321 13 rfl ?_
  refine And.intro (by decide) (And.intro (by decide) (And.intro (by decide) (And.intro (by decide) ?_)))
  show C 652 [some (.ref 0), some (.ref 97), some (.int a), some (.int (nI 1)), some (.int (bC i)), some (.int (bC j)), some (.int (zBestR x.v (nI (i / 18 + 1)) (nI (i / 3 % 6)) (nI (i % 3)) n)), some (.int (zBestR y.v (nI (j / 18 + 1)) (nI (j / 3 % 6)) (nI (j % 3)) n))] [.int (zBestR y.v (nI (j / 18 + 1)) (nI (j / 3 % 6)) (nI (j % 3)) n), .int (bC j - bC j / nI 10 * nI 10), .int (bC j / nI 10 - bC j / nI 10 / nI 10 * nI 10), .int (bC j / nI 100), .ref 97, .int (zbs (zVotes x.v (nI (i / 18 + 1)) (nI (i / 3 % 6)) (nI (i % 3)) (zBestR x.v (nI (i / 18 + 1)) (nI (i / 3 % 6)) (nI (i % 3)) n)) 5)] (hLL x y)
  rw [c1, c2, c3]
  refine zcallVb (sg := zbl 97 97) hC0 (o_votes y (nI (j / 18 + 1)) (nI (j / 3 % 6)) (nI (j % 3)) _ (mr_WM hM hm)) (lSBp _ _ _) lnd2 (Nat.le_of_ble_eq_true rfl) vX3_votes lk5_94 (by decide +kernel : decode cL_areAlike 652 = .ok (.invokevirtual 94, 3)) rfl rfl rfl (Nat.le_of_ble_eq_true rfl) (Nat.le_of_ble_eq_true rfl) (Nat.le_of_ble_eq_true rfl) ?_
  refine zcallS hC0 (mL_bits _ _) vL_bits lk5_103 (by decide +kernel : decode cL_areAlike 655 = .ok (.invokestatic 103, 3)) rfl rfl (Nat.le_of_ble_eq_true rfl) (Nat.le_of_ble_eq_true rfl) (Nat.le_of_ble_eq_true rfl) ?_
  refine zgo hC0 336 1 rfl ?_
  refine And.intro (fun c => absurd ((bV_votes hm hi vi hc).trans (bV_votes (mr_WM hM hm) hj vj hc).symm) c) (fun _ => ?_)
  refine zgo hC0 337 2 rfl ?_
  refine zgo hC0 340 1 rfl ?_
  exact zret_b rfl
set_option maxHeartbeats 4000000 in
set_option maxRecDepth 20000 in
theorem l_alike (x y : ZX) {n : Nat} (hm : WM x.v n) (hl : WL x.v n) (hM : MR n x.v y.v) (a : Int32) : ZM yL_areAlike cL_areAlike 8 (some .boolean) 7 156 [.ref 0, .ref 97, .int a] (hLL x y) (some (.int (b2i true))) (hLL x y) := by
  refine zm_of 5 qL_areAlike rfl rfl kL_areAlike rfl (Nat.le_of_ble_eq_true rfl) (fun C hC0 => ?_)
  refine al1 hC0 hm hl hM a (al2 hC0 hm hl hM a (al3 hC0 hm hl hM a (al4 hC0 hm hl hM a (fun z4 z5 z6 z7 => ?_))))
  refine zgo hC0 252 1 rfl ?_
  refine zcallVb (sg := zbl 0 97) hC0 (o_best x hm) (lSBo _ _ _) lnd1 (Nat.le_of_ble_eq_true rfl) vX3_bestBill lk5_100 (by decide +kernel : decode cL_areAlike 506 = .ok (.invokevirtual 100, 3)) rfl rfl rfl (Nat.le_of_ble_eq_true rfl) (Nat.le_of_ble_eq_true rfl) (Nat.le_of_ble_eq_true rfl) ?_
  refine zgo hC0 254 2 rfl ?_
  refine zcallVb (sg := zbl 97 97) hC0 (o_best y (mr_WM hM hm)) (lSBp _ _ _) lnd2 (Nat.le_of_ble_eq_true rfl) vX3_bestBill lk5_100 (by decide +kernel : decode cL_areAlike 512 = .ok (.invokevirtual 100, 3)) rfl rfl rfl (Nat.le_of_ble_eq_true rfl) (Nat.le_of_ble_eq_true rfl) (Nat.le_of_ble_eq_true rfl) ?_
  rcases best_M hM hm hl with ⟨neg, eq⟩ | ⟨i, j, c, hc, hi, hj, ei, ej, e18, vi, vj⟩
  · refine zgo hC0 257 3 rfl ?_
    refine And.intro (fun q => absurd neg (Int32.not_lt.mpr q)) (fun _ => ?_)
    refine zgo hC0 260 2 rfl ?_
    refine And.intro (fun c => absurd c (by decide)) (fun _ => ?_)
    refine zgo hC0 262 3 rfl ?_
    refine And.intro (fun c => absurd (eq) c) (fun _ => ?_)
    refine zgo hC0 265 2 rfl ?_
    refine zgo hC0 268 1 rfl ?_
    exact zret_b rfl
  · rw [ei, ej]
    refine zgo hC0 257 3 rfl ?_
    refine And.intro (fun _ => ?_) (fun q => absurd (Int32.not_lt.mp (bC_at i hi).2.2.2) q)
    exact al5 hC0 hm hM a hi hj e18 (by omega) vi vj _ _
end ALK2
