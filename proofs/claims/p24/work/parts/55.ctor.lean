/-! constructors -/
theorem zfx_rf (f : Nat → Nat) : zfx f f := ⟨rfl, fun _ _ => rfl⟩
set_option maxHeartbeats 2000000 in
theorem iX2 : ZI yX2_init cX2_init 1 1 40 1 60 2 [.null, .int (nI 0)] (hP (fun _ => nI 0) (nI 0)) := by
  refine zi_of 2 qX2_init rfl rfl kX2_init rfl (by decide) (fun f CN hN => ?_)
  have hf := zfx_rf f
  refine zgo (hN.R (kc := 0) (ks := 0) hf (by decide) (by decide)) 0 1 rfl ?_
  refine zn_obj hN (idx := 3) (by decide +kernel) (by decide +kernel) rfl (by decide) (by decide) ?_
  refine zgo (hN.R (kc := 0) (ks := 0) hf (by decide) (by decide)) 2 2 rfl ?_
  refine zn_newa hN hf (atype := .char) (t := 1) (n := 60) rfl (fun _ => rfl) (by decide +kernel) rfl (by decide) (by decide) (by decide) (by decide) (by decide +kernel) (by decide) ⟨rfl, trivial⟩ rfl rfl (fun ad hf => ?_) (by decide)
  refine zn_putF hN (by decide) (i := 0) (idx := 9) rfl rfl (fun _ => rfl) (fun _ => rfl) rfl (by decide) (by decide +kernel) ?_
  refine zgo (hN.R (kc := 1) (ks := 60) hf (by decide) (by decide)) 6 1 rfl ?_
  exact rfl
