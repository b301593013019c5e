/-! the law's loop -/
def LCl (C : ZP) : Prop := ∀ (pc : Nat) (ls : List (Option Value)) (rest : List Value) (h : List ZC) (i : Nat) (y : Int32), i < 1000 → y = nI i → ls.length = 5 → (rest.map fun v => v.category).sum ≤ 8 → decode cL_law pc = .ok (.invokestatic 107, 3) → (∀ r : Int32, C (pc + 3) ls (.int r :: rest) h) → C pc ls (.int y :: .ref 1002 :: rest) h
def lS (i : Nat) : List (Option Value) := [some (.ref 1002), some (.ref 0), some (.ref 97), some (.int (nI 1)), some (.int (nI i))]
set_option maxHeartbeats 4000000 in
set_option maxRecDepth 20000 in
theorem l_loop {R1 : Int32 → List ZC → Prop} {R0 : List ZC → Prop} {C : ZP} (hC0 : zR 5 cL_law qL_law 5 11 442 R1 R0 C) (hc : LCl C) (hR : ∀ h, R1 (nI 1) h) {x y : ZX} (h : RR 0 x y) : C 21 (lS 0) [] (hLL x y) := by
  refine zloop 50 (fun i => ∀ x y : ZX, RR (6 * i) x y → C 21 (lS i) [] (hLL x y)) ?_ ?_ x y h
  · intro x y h
    obtain ⟨-, ⟨n, s, hG, hM⟩, -⟩ := id h
    refine zgo hC0 12 3 rfl ?_
    refine And.intro (fun _ => ?_) (fun c => absurd (Int32.le_refl _) c)
    refine zgo hC0 44 2 rfl ?_
    refine And.intro (fun c => absurd c (by decide)) (fun _ => ?_)
    refine zgo hC0 46 1 rfl ?_
    refine zcallSb (sg := zbl 0 97) hC0 (l_well x (by decide) hG) (lSBo _ _ _) lnd1 (Nat.le_of_ble_eq_true rfl) vL_isWell lk5_114 (by decide +kernel : decode cL_law 87 = .ok (.invokestatic 114, 3)) rfl rfl (Nat.le_of_ble_eq_true rfl) (Nat.le_of_ble_eq_true rfl) (Nat.le_of_ble_eq_true rfl) ?_
    refine zgo hC0 48 1 rfl ?_
    refine And.intro (fun c => absurd c (by decide)) (fun _ => ?_)
    refine zgo hC0 49 4 rfl ?_
    refine hc _ _ _ _ 50 _ (by decide) rfl rfl (Nat.le_of_ble_eq_true rfl) (by decide +kernel) (fun r => ?_)
    refine zcallS hC0 (l_alike x y hG.1 hG.2.1 hM r) vL_areAlike lk5_118 (by decide +kernel : decode cL_law 101 = .ok (.invokestatic 118, 3)) rfl rfl (Nat.le_of_ble_eq_true rfl) (Nat.le_of_ble_eq_true rfl) (Nat.le_of_ble_eq_true rfl) ?_
    refine zgo hC0 55 1 rfl ?_
    refine And.intro (fun c => absurd c (by decide)) (fun _ => ?_)
    refine zgo hC0 56 2 rfl ?_
    refine zgo hC0 59 1 rfl ?_
    exact hR _
  · intro i hi ih x y h
    refine zgo hC0 12 3 rfl ?_
    refine And.intro (fun c => absurd c (nI_ge hi (by decide))) (fun _ => ?_)
    refine zgo hC0 15 2 rfl ?_
    refine And.intro (fun c => absurd c (by decide)) (fun _ => ?_)
    refine zgo hC0 17 4 rfl ?_
    refine hc _ _ _ _ i _ (by omega) rfl rfl (Nat.le_of_ble_eq_true rfl) (by decide +kernel) (fun r1 => ?_)
    refine zgo hC0 22 4 rfl ?_
    refine hc _ _ _ _ (i + 1) _ (by omega) (nI_add i 1) rfl (Nat.le_of_ble_eq_true rfl) (by decide +kernel) (fun r2 => ?_)
    obtain ⟨x2, y2, hR2, hZ⟩ := l_isStep (show 6 * i < 2 ^ 20 by omega) h r1 (r2 >>> (nI 2 &&& 31))
    obtain ⟨-, ⟨n, s, hG, hM⟩, -⟩ := id hR2
    have c70 : C 70 (lS i) [] (hLL x2 y2) := by
      refine zgo hC0 38 2 rfl ?_
      refine zgo hC0 41 3 rfl ?_
      have h9 := ih x2 y2 (hR2.up (by omega))
      rw [lS, ← nI_add] at h9
      exact h9
    refine zgo hC0 27 2 rfl ?_
    refine zcallS hC0 hZ vL_isStep lk5_111 (by decide +kernel : decode cL_law 50 = .ok (.invokestatic 111, 3)) rfl rfl (Nat.le_of_ble_eq_true rfl) (Nat.le_of_ble_eq_true rfl) (Nat.le_of_ble_eq_true rfl) ?_
    refine zgo hC0 30 1 rfl ?_
    refine And.intro (fun c => absurd c (by decide)) (fun _ => ?_)
    refine zgo hC0 31 4 rfl ?_
    refine And.intro (by decide) (And.intro (fun _ => c70) (fun _ => ?_))
    refine zgo hC0 35 1 rfl ?_
    refine zcallSb (sg := zbl 0 97) hC0 (l_well x2 (show 6 * i + 6 < 2 ^ 20 by omega) hG) (lSBo _ _ _) lnd1 (Nat.le_of_ble_eq_true rfl) vL_isWell lk5_114 (by decide +kernel : decode cL_law 64 = .ok (.invokestatic 114, 3)) rfl rfl (Nat.le_of_ble_eq_true rfl) (Nat.le_of_ble_eq_true rfl) (Nat.le_of_ble_eq_true rfl) ?_
    refine zgo hC0 37 1 rfl ?_
    refine And.intro (fun c => absurd c (by decide)) (fun _ => ?_)
    exact c70
