/-! the law's loop -/
theorem l_ge {i L : Nat} (hi : i < 2 ^ 20) (hL : L < 2 ^ 20) (h : ¬ nI L - nI 5 < nI i) : i + 5 ≤ L := by
  rcases Nat.lt_or_ge L (i + 5) with c | c
  · exfalso
    apply h
    rw [Int32.lt_iff_toInt_lt, pk_sub_toInt (by omega) (by decide), nI_toInt (by omega)]
    omega
  · exact c
section LAW2
variable {R1 : Int32 → List ZC → Prop} {R0 : List ZC → Prop} {C : ZP} {L : Nat} {xs : Nat → Int32}
set_option maxRecDepth 20000 in
set_option maxHeartbeats 1000000 in
theorem l_case (hC : zR 5 cL_law qL_law 4 9 312 R1 R0 C) (hs : LSc C L xs) {S i : Nat} {x : ZX} {u : CV} (h : ZRl S x u) (hS : S + 200 < 2 ^ 31) (hi : i + 5 ≤ L) (k : ∀ (x2 : ZX) (u2 : CV), ZRl (S + 20) x2 u2 → C 765 (lSt i) [] (hL x2 u2)) (y : Int32) : C 32 (lSt i) [.int y] (hL x u) := by
  have hd : decode cL_law 32 = .ok (.tableswitch 733 0 20 #[100, 133, 176, 229, 252, 265, 278, 311, 344, 377, 400, 453, 506, 549, 582, 595, 648, 661, 674, 687, 710], 100) := by decide +kernel
  rcases zcase y 21 (by decide) with ⟨j, hj, rfl⟩ | ho
  · rcases (show j = 0 ∨ j = 1 ∨ j = 2 ∨ j = 3 ∨ j = 4 ∨ j = 5 ∨ j = 6 ∨ j = 7 ∨ j = 8 ∨ j = 9 ∨ j = 10 ∨ j = 11 ∨ j = 12 ∨ j = 13 ∨ j = 14 ∨ j = 15 ∨ j = 16 ∨ j = 17 ∨ j = 18 ∨ j = 19 ∨ j = 20 by omega) with rfl | rfl | rfl | rfl | rfl | rfl | rfl | rfl | rfl | rfl | rfl | rfl | rfl | rfl | rfl | rfl | rfl | rfl | rfl | rfl | rfl
    · exact zswI hC hd (tgt := 132) (by decide +kernel) 100 (by decide +kernel) (by decide) (la_set hC hs h hS hi k)
    · exact zswI hC hd (tgt := 165) (by decide +kernel) 133 (by decide +kernel) (by decide) (la_wish hC hs h hS hi k)
    · exact zswI hC hd (tgt := 208) (by decide +kernel) 176 (by decide +kernel) (by decide) (la_propose hC hs h hS hi k)
    · exact zswI hC hd (tgt := 261) (by decide +kernel) 229 (by decide +kernel) (by decide) (la_repeal hC hs h hS hi k)
    · exact zswI hC hd (tgt := 284) (by decide +kernel) 252 (by decide +kernel) (by decide) (la_endSession hC hs h hS hi k)
    · exact zswI hC hd (tgt := 297) (by decide +kernel) 265 (by decide +kernel) (by decide) (la_read hC hs h hS hi k)
    · exact zswI hC hd (tgt := 310) (by decide +kernel) 278 (by decide +kernel) (by decide) (la_law hC hs h hS hi k)
    · exact zswI hC hd (tgt := 343) (by decide +kernel) 311 (by decide +kernel) (by decide) (la_topic hC hs h hS hi k)
    · exact zswI hC hd (tgt := 376) (by decide +kernel) 344 (by decide +kernel) (by decide) (la_councillor hC hs h hS hi k)
    · exact zswI hC hd (tgt := 409) (by decide +kernel) 377 (by decide +kernel) (by decide) (la_count hC hs h hS hi k)
    · exact zswI hC hd (tgt := 432) (by decide +kernel) 400 (by decide +kernel) (by decide) (la_why hC hs h hS hi k)
    · exact zswI hC hd (tgt := 485) (by decide +kernel) 453 (by decide +kernel) (by decide) (la_votes hC hs h hS hi k)
    · exact zswI hC hd (tgt := 538) (by decide +kernel) 506 (by decide +kernel) (by decide) (la_bestRepeal hC hs h hS hi k)
    · exact zswI hC hd (tgt := 581) (by decide +kernel) 549 (by decide +kernel) (by decide) (la_longestBill hC hs h hS hi k)
    · exact zswI hC hd (tgt := 614) (by decide +kernel) 582 (by decide +kernel) (by decide) (la_bestBill hC hs h hS hi k)
    · exact zswI hC hd (tgt := 627) (by decide +kernel) 595 (by decide +kernel) (by decide) (la_put hC hs h hS hi k)
    · exact zswI hC hd (tgt := 680) (by decide +kernel) 648 (by decide +kernel) (by decide) (la_wipe hC hs h hS hi k)
    · exact zswI hC hd (tgt := 693) (by decide +kernel) 661 (by decide +kernel) (by decide) (la_fault hC hs h hS hi k)
    · exact zswI hC hd (tgt := 706) (by decide +kernel) 674 (by decide +kernel) (by decide) (la_undo hC hs h hS hi k)
    · exact zswI hC hd (tgt := 719) (by decide +kernel) 687 (by decide +kernel) (by decide) (la_save hC hs h hS hi k)
    · exact zswI hC hd (tgt := 742) (by decide +kernel) 710 (by decide +kernel) (by decide) (la_restore hC hs h hS hi k)
  · refine zswO hC hd (tgt := 765) ?_ (by decide) (k x u (h.up (by omega)))
    rcases zoutI (by decide) ho with c | c
    · exact Or.inl c
    · exact Or.inr (by omega)
set_option maxRecDepth 20000 in
set_option maxHeartbeats 1000000 in
theorem l_loop (hC : zR 5 cL_law qL_law 4 9 312 R1 R0 C) (hs : LSc C L xs) (hR : ∀ h, R1 (nI 1) h) (hL2 : L ≤ 2560) : ∀ (n i : Nat) (x : ZX) (u : CV), L + 5 < i + n → i ≤ L + 5 → ZRl (4 * i) x u → C 18 (lSt i) [] (hL x u)
  | 0, i, x, u, h1, h2, _ => absurd h1 (by omega)
  | n + 1, i, x, u, h1, h2, h => by
    refine zgo hC 10 2 rfl ?_
    refine hs.1 _ _ _ _ (by decide +kernel) ?_
    refine zgo hC 13 3 rfl ?_
    refine And.intro (fun _ => ?_) (fun c => ?_)
    · refine zgo hC 525 2 rfl ?_
      exact hR _
    · have hi : i + 5 ≤ L := l_ge (by omega) (by omega) c
      refine zgo hC 16 2 rfl ?_
      refine hs.2 _ _ _ _ _ i (by omega) rfl (by decide +kernel) ?_
      refine zgo hC 19 2 rfl ?_
      refine l_case hC hs h (by omega) hi (fun x2 u2 h2 => ?_) _
      refine zgo hC 523 2 rfl ?_
      have h9 := l_loop hC hs hR hL2 n (i + 5) x2 u2 (by omega) (by omega) h2
      rw [lSt, ← nI_add] at h9
      exact h9
end LAW2
