/-! the constructor of Code -/
def zfi (i : Nat) : Nat → Int32 := fun p => if p < i then nI 3 else nI 0
theorem zfi_0 : zfi 0 = fun _ => nI 0 := by
  funext p
  rw [zfi, if_neg (by omega)]
theorem zfi_s (i : Nat) : upd (zfi i) i (nI 3) = zfi (i + 1) := by
  funext p
  by_cases e : p = i
  · subst e
    rw [upd_at, zfi, if_pos (by omega)]
  · rw [upd_ne e, zfi, zfi]
    by_cases c : p < i
    · rw [if_pos c, if_pos (by omega)]
    · rw [if_neg c, if_neg (by omega)]
/-- a new code -/
def v00 (i : Nat) : CV := fun f => match f with
  | 0 => upd (upd (upd (fun _ => nI 0) 0 (nI 3)) 1 (nI 10)) 2 (nI 2)
  | 1 => zfi i
  | _ => fun _ => nI 0
set_option maxHeartbeats 4000000 in
set_option maxRecDepth 20000 in
theorem iX0 : ZI yX0_init cX0_init 2 1 40 9 593 0 [.null, .null, .null, .null, .null, .null, .null, .null, .null, .int (nI 0), .int (nI 0), .int (nI 0)] (hC (v00 30)) := by
  refine zi_of 0 qX0_init rfl rfl kX0_init rfl (by decide) (fun f CN hN => ?_)
  have hf := zfx_rf f
  refine zgo (hN.R (kc := 0) (ks := 0) hf (Nat.le_of_ble_eq_true rfl) (Nat.le_of_ble_eq_true rfl)) 0 1 rfl ?_
  refine zn_obj hN (idx := 3) (by decide +kernel) (by decide +kernel) rfl (by decide) (by decide) ?_
  refine zgo (hN.R (kc := 0) (ks := 0) hf (Nat.le_of_ble_eq_true rfl) (Nat.le_of_ble_eq_true rfl)) 2 2 rfl ?_
  refine zn_newa hN hf (atype := .int) (t := 0) (n := 3) rfl (fun _ => rfl) (by decide +kernel) rfl (by decide) (by decide) (Nat.le_of_ble_eq_true rfl) (Nat.le_of_ble_eq_true rfl) (by decide +kernel) (Nat.le_of_ble_eq_true rfl) ⟨rfl, trivial⟩ rfl rfl (fun ad hf => ?_) (Nat.le_of_ble_eq_true rfl)
  refine zgo (hN.R (kc := 1) (ks := 3) hf (Nat.le_of_ble_eq_true rfl) (Nat.le_of_ble_eq_true rfl)) 5 12 rfl ?_
  refine And.intro (zin3 (k := 0)) (And.intro (zin3 (k := 1)) (And.intro (zin3 (k := 2)) ?_))
  refine zn_putF hN (by decide) (i := 0) (idx := 9) rfl rfl (fun _ => rfl) (fun _ => rfl) rfl (by decide) (by decide +kernel) ?_
  refine zgo (hN.R (kc := 1) (ks := 3) hf (Nat.le_of_ble_eq_true rfl) (Nat.le_of_ble_eq_true rfl)) 18 2 rfl ?_
  refine zn_newa hN hf (atype := .int) (t := 0) (n := 30) rfl (fun _ => rfl) (by decide +kernel) rfl (by decide) (by decide) (Nat.le_of_ble_eq_true rfl) (Nat.le_of_ble_eq_true rfl) (by decide +kernel) (Nat.le_of_ble_eq_true rfl) ⟨rfl, trivial⟩ rfl rfl (fun ad hf => ?_) (Nat.le_of_ble_eq_true rfl)
  refine zn_putF hN (by decide) (i := 1) (idx := 15) rfl rfl (fun _ => rfl) (fun _ => rfl) rfl (by decide) (by decide +kernel) ?_
  refine zgo (hN.R (kc := 2) (ks := 33) hf (Nat.le_of_ble_eq_true rfl) (Nat.le_of_ble_eq_true rfl)) 22 2 rfl ?_
  refine zn_newa hN hf (atype := .int) (t := 0) (n := 80) rfl (fun _ => rfl) (by decide +kernel) rfl (by decide) (by decide) (Nat.le_of_ble_eq_true rfl) (Nat.le_of_ble_eq_true rfl) (by decide +kernel) (Nat.le_of_ble_eq_true rfl) ⟨rfl, trivial⟩ rfl rfl (fun ad hf => ?_) (Nat.le_of_ble_eq_true rfl)
  refine zn_putF hN (by decide) (i := 2) (idx := 18) rfl rfl (fun _ => rfl) (fun _ => rfl) rfl (by decide) (by decide +kernel) ?_
  refine zgo (hN.R (kc := 3) (ks := 113) hf (Nat.le_of_ble_eq_true rfl) (Nat.le_of_ble_eq_true rfl)) 26 2 rfl ?_
  refine zn_newa hN hf (atype := .int) (t := 0) (n := 80) rfl (fun _ => rfl) (by decide +kernel) rfl (by decide) (by decide) (Nat.le_of_ble_eq_true rfl) (Nat.le_of_ble_eq_true rfl) (by decide +kernel) (Nat.le_of_ble_eq_true rfl) ⟨rfl, trivial⟩ rfl rfl (fun ad hf => ?_) (Nat.le_of_ble_eq_true rfl)
  refine zn_putF hN (by decide) (i := 3) (idx := 21) rfl rfl (fun _ => rfl) (fun _ => rfl) rfl (by decide) (by decide +kernel) ?_
  refine zgo (hN.R (kc := 4) (ks := 193) hf (Nat.le_of_ble_eq_true rfl) (Nat.le_of_ble_eq_true rfl)) 30 2 rfl ?_
  refine zn_newa hN hf (atype := .int) (t := 0) (n := 80) rfl (fun _ => rfl) (by decide +kernel) rfl (by decide) (by decide) (Nat.le_of_ble_eq_true rfl) (Nat.le_of_ble_eq_true rfl) (by decide +kernel) (Nat.le_of_ble_eq_true rfl) ⟨rfl, trivial⟩ rfl rfl (fun ad hf => ?_) (Nat.le_of_ble_eq_true rfl)
  refine zn_putF hN (by decide) (i := 4) (idx := 24) rfl rfl (fun _ => rfl) (fun _ => rfl) rfl (by decide) (by decide +kernel) ?_
  refine zgo (hN.R (kc := 5) (ks := 273) hf (Nat.le_of_ble_eq_true rfl) (Nat.le_of_ble_eq_true rfl)) 34 2 rfl ?_
  refine zn_newa hN hf (atype := .int) (t := 0) (n := 80) rfl (fun _ => rfl) (by decide +kernel) rfl (by decide) (by decide) (Nat.le_of_ble_eq_true rfl) (Nat.le_of_ble_eq_true rfl) (by decide +kernel) (Nat.le_of_ble_eq_true rfl) ⟨rfl, trivial⟩ rfl rfl (fun ad hf => ?_) (Nat.le_of_ble_eq_true rfl)
  refine zn_putF hN (by decide) (i := 5) (idx := 27) rfl rfl (fun _ => rfl) (fun _ => rfl) rfl (by decide) (by decide +kernel) ?_
  refine zgo (hN.R (kc := 6) (ks := 353) hf (Nat.le_of_ble_eq_true rfl) (Nat.le_of_ble_eq_true rfl)) 38 2 rfl ?_
  refine zn_newa hN hf (atype := .int) (t := 0) (n := 80) rfl (fun _ => rfl) (by decide +kernel) rfl (by decide) (by decide) (Nat.le_of_ble_eq_true rfl) (Nat.le_of_ble_eq_true rfl) (by decide +kernel) (Nat.le_of_ble_eq_true rfl) ⟨rfl, trivial⟩ rfl rfl (fun ad hf => ?_) (Nat.le_of_ble_eq_true rfl)
  refine zn_putF hN (by decide) (i := 6) (idx := 30) rfl rfl (fun _ => rfl) (fun _ => rfl) rfl (by decide) (by decide +kernel) ?_
  refine zgo (hN.R (kc := 7) (ks := 433) hf (Nat.le_of_ble_eq_true rfl) (Nat.le_of_ble_eq_true rfl)) 42 2 rfl ?_
  refine zn_newa hN hf (atype := .int) (t := 0) (n := 80) rfl (fun _ => rfl) (by decide +kernel) rfl (by decide) (by decide) (Nat.le_of_ble_eq_true rfl) (Nat.le_of_ble_eq_true rfl) (by decide +kernel) (Nat.le_of_ble_eq_true rfl) ⟨rfl, trivial⟩ rfl rfl (fun ad hf => ?_) (Nat.le_of_ble_eq_true rfl)
  refine zn_putF hN (by decide) (i := 7) (idx := 33) rfl rfl (fun _ => rfl) (fun _ => rfl) rfl (by decide) (by decide +kernel) ?_
  refine zgo (hN.R (kc := 8) (ks := 513) hf (Nat.le_of_ble_eq_true rfl) (Nat.le_of_ble_eq_true rfl)) 46 2 rfl ?_
  refine zn_newa hN hf (atype := .int) (t := 0) (n := 80) rfl (fun _ => rfl) (by decide +kernel) rfl (by decide) (by decide) (Nat.le_of_ble_eq_true rfl) (Nat.le_of_ble_eq_true rfl) (by decide +kernel) (Nat.le_of_ble_eq_true rfl) ⟨rfl, trivial⟩ rfl rfl (fun ad hf => ?_) (Nat.le_of_ble_eq_true rfl)
  refine zn_putF hN (by decide) (i := 8) (idx := 36) rfl rfl (fun _ => rfl) (fun _ => rfl) rfl (by decide) (by decide +kernel) ?_
  refine zgo (hN.R (kc := 9) (ks := 593) hf (Nat.le_of_ble_eq_true rfl) (Nat.le_of_ble_eq_true rfl)) 50 2 rfl ?_
  show CN ad 9 593 90 [some (.ref 0), some (.int (nI 0))] [] (hC (v00 0))
  refine zloop 30 (fun i => ∀ y, y = nI i → CN ad 9 593 90 [some (.ref 0), some (.int y)] [] (hC (v00 i))) ?_ ?_ _ rfl
  · rintro y rfl
    refine zgo (hN.R (kc := 9) (ks := 593) hf (Nat.le_of_ble_eq_true rfl) (Nat.le_of_ble_eq_true rfl)) 52 3 rfl ?_
    refine And.intro (fun _ => ?_) (fun c => absurd (nI_le (Nat.le_refl 30) (by decide)) c)
    refine zgo (hN.R (kc := 9) (ks := 593) hf (Nat.le_of_ble_eq_true rfl) (Nat.le_of_ble_eq_true rfl)) 62 1 rfl ?_
    exact rfl
  · rintro i hi ih y rfl
    refine zgo (hN.R (kc := 9) (ks := 593) hf (Nat.le_of_ble_eq_true rfl) (Nat.le_of_ble_eq_true rfl)) 52 3 rfl ?_
    refine And.intro (fun c => absurd c (nI_ge hi (by decide))) (fun _ => ?_)
    refine zgo (hN.R (kc := 9) (ks := 593) hf (Nat.le_of_ble_eq_true rfl) (Nat.le_of_ble_eq_true rfl)) 55 7 rfl ?_
    refine And.intro (vp_in_nI (N := 30) hi (by decide)) ?_
    show CN ad 9 593 90 [some (.ref 0), some (.int (nI i + nI 1))] [] (hC (vup (v00 i) 1 (upd (zfi i) (nI i).toNatClampNeg (nI 3))))
    rw [nI_clamp (show i < 2 ^ 31 by omega), zfi_s]
    exact ih _ (nI_add i 1)
