/-! the constructor of the Model -/
def zu0 : Nat → Int32 := upd (upd (upd (fun _ => nI 0) 0 (nI 3)) 1 (nI 10)) 2 (nI 2)
/-- a new model -/
def u00 (i : Nat) : CV := fun f => match f with
  | 0 => zcp zu0 (fun _ => nI 3) 6 i
  | _ => fun _ => nI 0
set_option maxHeartbeats 4000000 in
set_option maxRecDepth 20000 in
theorem iX4 : ZI yX4_init cX4_init 2 1 40 6 5446 4 [.null, .null, .int (nI 0), .null, .null, .null, .int (nI 0), .int (nI 0), .null, .int (nI 0)] (hM (u00 30)) := by
  refine zi_of 4 qX4_init rfl rfl kX4_init rfl (by decide) (fun f CN hN => ?_)
  have hf := zfx_rf f
  refine zgo (hN.R (kc := 0) (ks := 0) hf (Nat.le_of_ble_eq_true rfl) (Nat.le_of_ble_eq_true rfl)) 0 1 rfl ?_
  refine zn_obj hN (idx := 1) (by decide +kernel) (by decide +kernel) rfl (by decide) (by decide) ?_
  refine zgo (hN.R (kc := 0) (ks := 0) hf (Nat.le_of_ble_eq_true rfl) (Nat.le_of_ble_eq_true rfl)) 2 2 rfl ?_
  refine zn_newa hN hf (atype := .int) (t := 0) (n := 596) rfl (fun _ => rfl) (by decide +kernel) rfl (by decide) (by decide) (Nat.le_of_ble_eq_true rfl) (Nat.le_of_ble_eq_true rfl) (by decide +kernel) (Nat.le_of_ble_eq_true rfl) ⟨rfl, trivial⟩ rfl rfl (fun ad hf => ?_) (Nat.le_of_ble_eq_true rfl)
  refine zn_putF hN (by decide) (i := 0) (idx := 7) rfl rfl (fun _ => rfl) (fun _ => rfl) rfl (by decide) (by decide +kernel) ?_
  refine zgo (hN.R (kc := 1) (ks := 596) hf (Nat.le_of_ble_eq_true rfl) (Nat.le_of_ble_eq_true rfl)) 6 2 rfl ?_
  refine zn_newa hN hf (atype := .int) (t := 0) (n := 3576) rfl (fun _ => rfl) (by decide +kernel) rfl (by decide) (by decide) (Nat.le_of_ble_eq_true rfl) (Nat.le_of_ble_eq_true rfl) (by decide +kernel) (Nat.le_of_ble_eq_true rfl) ⟨rfl, trivial⟩ rfl rfl (fun ad hf => ?_) (Nat.le_of_ble_eq_true rfl)
  refine zn_putF hN (by decide) (i := 1) (idx := 13) rfl rfl (fun _ => rfl) (fun _ => rfl) rfl (by decide) (by decide +kernel) ?_
  refine zgo (hN.R (kc := 2) (ks := 4172) hf (Nat.le_of_ble_eq_true rfl) (Nat.le_of_ble_eq_true rfl)) 10 2 rfl ?_
  refine zn_newa hN hf (atype := .int) (t := 0) (n := 1192) rfl (fun _ => rfl) (by decide +kernel) rfl (by decide) (by decide) (Nat.le_of_ble_eq_true rfl) (Nat.le_of_ble_eq_true rfl) (by decide +kernel) (Nat.le_of_ble_eq_true rfl) ⟨rfl, trivial⟩ rfl rfl (fun ad hf => ?_) (Nat.le_of_ble_eq_true rfl)
  refine zn_putF hN (by decide) (i := 3) (idx := 16) rfl rfl (fun _ => rfl) (fun _ => rfl) rfl (by decide) (by decide +kernel) ?_
  refine zgo (hN.R (kc := 3) (ks := 5364) hf (Nat.le_of_ble_eq_true rfl) (Nat.le_of_ble_eq_true rfl)) 14 2 rfl ?_
  refine zn_newa hN hf (atype := .int) (t := 0) (n := 2) rfl (fun _ => rfl) (by decide +kernel) rfl (by decide) (by decide) (Nat.le_of_ble_eq_true rfl) (Nat.le_of_ble_eq_true rfl) (by decide +kernel) (Nat.le_of_ble_eq_true rfl) ⟨rfl, trivial⟩ rfl rfl (fun ad hf => ?_) (Nat.le_of_ble_eq_true rfl)
  refine zn_putF hN (by decide) (i := 4) (idx := 19) rfl rfl (fun _ => rfl) (fun _ => rfl) rfl (by decide) (by decide +kernel) ?_
  refine zgo (hN.R (kc := 4) (ks := 5366) hf (Nat.le_of_ble_eq_true rfl) (Nat.le_of_ble_eq_true rfl)) 18 2 rfl ?_
  refine zn_newa hN hf (atype := .int) (t := 0) (n := 60) rfl (fun _ => rfl) (by decide +kernel) rfl (by decide) (by decide) (Nat.le_of_ble_eq_true rfl) (Nat.le_of_ble_eq_true rfl) (by decide +kernel) (Nat.le_of_ble_eq_true rfl) ⟨rfl, trivial⟩ rfl rfl (fun ad hf => ?_) (Nat.le_of_ble_eq_true rfl)
  refine zn_putF hN (by decide) (i := 5) (idx := 22) rfl rfl (fun _ => rfl) (fun _ => rfl) rfl (by decide) (by decide +kernel) ?_
  refine zgo (hN.R (kc := 5) (ks := 5426) hf (Nat.le_of_ble_eq_true rfl) (Nat.le_of_ble_eq_true rfl)) 22 2 rfl ?_
  refine zn_newa hN hf (atype := .int) (t := 0) (n := 20) rfl (fun _ => rfl) (by decide +kernel) rfl (by decide) (by decide) (Nat.le_of_ble_eq_true rfl) (Nat.le_of_ble_eq_true rfl) (by decide +kernel) (Nat.le_of_ble_eq_true rfl) ⟨rfl, trivial⟩ rfl rfl (fun ad hf => ?_) (Nat.le_of_ble_eq_true rfl)
  refine zn_putF hN (by decide) (i := 8) (idx := 25) rfl rfl (fun _ => rfl) (fun _ => rfl) rfl (by decide) (by decide +kernel) ?_
  refine zgo (hN.R (kc := 6) (ks := 5446) hf (Nat.le_of_ble_eq_true rfl) (Nat.le_of_ble_eq_true rfl)) 26 17 rfl ?_
  refine And.intro (z596 (k := 0)) (And.intro (z596 (k := 1)) (And.intro (z596 (k := 2)) ?_))
  have e0 : zcp zu0 (fun _ => nI 3) 6 0 = zu0 := zcp_0 _ _ _
  have e1 : hM (vup (u00 0) 0 zu0) = hM (u00 0) := by
    show hM (vup (u00 0) 0 zu0) = hM (vup (u00 0) 0 (zcp zu0 (fun _ => nI 3) 6 0))
    rw [e0]
  show CN ad 6 5446 79 [some (.ref 0), some (.int (nI 6))] [] (hM (vup (u00 0) 0 zu0))
  rw [e1]
  refine zloop 30 (fun i => ∀ y, y = nI (6 + i) → CN ad 6 5446 79 [some (.ref 0), some (.int y)] [] (hM (u00 i))) ?_ ?_ _ rfl
  · rintro y rfl
    refine zgo (hN.R (kc := 6) (ks := 5446) hf (Nat.le_of_ble_eq_true rfl) (Nat.le_of_ble_eq_true rfl)) 43 3 rfl ?_
    refine And.intro (fun _ => ?_) (fun c => absurd (nI_le (Nat.le_refl 36) (by decide)) c)
    refine zgo (hN.R (kc := 6) (ks := 5446) hf (Nat.le_of_ble_eq_true rfl) (Nat.le_of_ble_eq_true rfl)) 53 1 rfl ?_
    exact rfl
  · rintro i hi ih y rfl
    refine zgo (hN.R (kc := 6) (ks := 5446) hf (Nat.le_of_ble_eq_true rfl) (Nat.le_of_ble_eq_true rfl)) 43 3 rfl ?_
    refine And.intro (fun c => absurd c (nI_ge (show 6 + i < 36 by omega) (by decide))) (fun _ => ?_)
    refine zgo (hN.R (kc := 6) (ks := 5446) hf (Nat.le_of_ble_eq_true rfl) (Nat.le_of_ble_eq_true rfl)) 46 7 rfl ?_
    refine And.intro (vp_in_nI (N := 596) (n := 6 + i) (by omega) (by decide)) ?_
    show CN ad 6 5446 79 [some (.ref 0), some (.int (nI (6 + i) + nI 1))] [] (hM (vup (u00 i) 0 (upd (zcp zu0 (fun _ => nI 3) 6 i) (nI (6 + i)).toNatClampNeg (nI 3))))
    rw [nI_clamp (show 6 + i < 2 ^ 31 by omega), show upd (zcp zu0 (fun _ => nI 3) 6 i) (6 + i) (nI 3) = zcp zu0 (fun _ => nI 3) 6 (i + 1) from zcp_s zu0 (fun _ => nI 3) 6 i]
    exact ih _ (nI_add (6 + i) 1)
