/-! the constructor of RepealedLaws -/
def zo3 (a b c d e : Value) : ZC := .inr (.inl (3, [a, b, c, d, e]))
def yXC : List ZC := (hC (v00 30)).map (zcu 1)
def yXP : List ZC := (hP (fun _ => nI 0) (nI 0)).map (zcu 11)
def yXH : List ZC := (hHo 6).map (zcu 13)
theorem zhb_o3 {N : Nat} {a b c d e : Value} (h : zvb N [a, b, c, d, e] = true) : zhb N [zo3 a b c d e] := ⟨h, trivial⟩
theorem yXC_b {N : Nat} (h : 11 ≤ N) : zhb N yXC := zhb_up (n := 10) (by omega) _ (hC_c _)
theorem yXP_b {N : Nat} (h : 13 ≤ N) : zhb N yXP := zhb_up (n := 2) (by omega) _ (hP_c _ _)
theorem yXH_b {N : Nat} (h : 75 ≤ N) : zhb N yXH := zhb_up (n := 62) (by omega) _ hHo_c
theorem yXH_len : yXH.length = 62 := by
  rw [yXH, List.length_map, hHo_len]
/-- the cells with i slots made -/
def hXo (o : ZC) (i : Nat) : List ZC := [o] ++ yXC ++ yXP ++ yXH ++ [.inr (.inr (2, gho 76 i))] ++ zbk 76 i
theorem hXo_len (o : ZC) (i : Nat) : (hXo o i).length = 76 + 10 * i := by
  rw [hXo, List.length_append, zbk_len, List.length_append, List.length_append, yXH_len]
  rfl
theorem hXo_b {N i : Nat} {o : ZC} (h : 76 + 10 * i ≤ N) (ho : zhb N [o]) : zhb N (hXo o i) := by
  refine zhb_app _ _ (zhb_app _ _ (zhb_app _ _ (zhb_app _ _ (zhb_app _ _ ho (yXC_b (by omega))) (yXP_b (by omega))) (yXH_b (by omega))) ⟨?_, trivial⟩) (zbk_b i h)
  intro j k hj
  have hj : gho 76 i j = some k := hj
  unfold gho at hj
  by_cases c : j < i
  · rw [if_pos c] at hj
    have e := Option.some.inj hj
    left
    omega
  · rw [if_neg c] at hj
    cases hj
set_option maxHeartbeats 4000000 in
set_option maxRecDepth 20000 in
theorem iX3 : ZI yX3_init cX3_init 2 3 110 96 5520 3 [.null, .null, .null, .null, .null] (hXo (zo3 (.ref 1) (.ref 11) (.ref 13) (.ref 75) (.ref 96)) 2 ++ [.inl (2, 2, fun _ => nI 0)]) := by
  refine zi_of 3 qX3_init rfl rfl kX3_init rfl (by decide) (fun f CN hN => ?_)
  have hf := zfx_rf f
  refine zgo (hN.R (kc := 0) (ks := 0) hf (Nat.le_of_ble_eq_true rfl) (Nat.le_of_ble_eq_true rfl)) 0 1 rfl ?_
  refine zn_obj hN (idx := 1) (by decide +kernel) (by decide +kernel) rfl (by decide) (by decide) ?_
  refine zgo (hN.R (kc := 0) (ks := 0) hf (Nat.le_of_ble_eq_true rfl) (Nat.le_of_ble_eq_true rfl)) 2 1 rfl ?_
  show CN f 0 0 5 [some (.ref 0), none] [.ref 0] [zo3 .null .null .null .null .null]
  refine zn_new hN hf (ci := 0) (idx := 7) (fs := [.null, .null, .null, .null, .null, .null, .null, .null, .null, .int (nI 0), .int (nI 0), .int (nI 0)]) (by decide) (by decide +kernel) (by decide +kernel) (by decide +kernel) (by decide) (fun _ => rfl) (Nat.le_of_ble_eq_true rfl) (Nat.le_of_ble_eq_true rfl) (by decide +kernel) (Nat.le_of_ble_eq_true rfl) (zhb_o3 rfl) rfl rfl (Nat.le_of_ble_eq_true rfl) (fun ad hf => ?_)
  refine zgo (hN.R (kc := 1) (ks := 12) hf (Nat.le_of_ble_eq_true rfl) (Nat.le_of_ble_eq_true rfl)) 4 1 rfl ?_
  refine zn_init false hN hf iX0 (fun _ => rfl) rfl (by decide +kernel) (by decide +kernel) (by decide +kernel) ⟨(by decide +kernel), (by decide +kernel), (by decide +kernel)⟩ (idx := 9) (show Cond.methodLink (zcn 3) 9 yX0_init ∈ zt by decide +kernel) (by decide +kernel) rfl (by decide) (by decide) (Nat.le_of_ble_eq_true rfl) (Nat.le_of_ble_eq_true rfl) (Nat.le_of_ble_eq_true rfl) (Nat.le_of_ble_eq_true rfl) (Nat.le_of_ble_eq_true rfl) (Nat.le_of_ble_eq_true rfl) (zhb_o3 rfl) (zhc_C _) rfl rfl (fun ad hf => ?_)
  show CN ad 10 605 12 [some (.ref 0), none] [.ref 1, .ref 0] ([zo3 .null .null .null .null .null] ++ yXC)
  refine zn_putF hN (by decide) (i := 0) (idx := 10) rfl rfl (fun _ => rfl) (fun _ => rfl) rfl (by decide) (by decide +kernel) ?_
  refine zgo (hN.R (kc := 10) (ks := 605) hf (Nat.le_of_ble_eq_true rfl) (Nat.le_of_ble_eq_true rfl)) 7 1 rfl ?_
  show CN ad 10 605 16 [some (.ref 0), none] [.ref 0] ([zo3 (.ref 1) .null .null .null .null] ++ yXC)
  refine zn_new hN hf (ci := 2) (idx := 16) (fs := [.null, .int (nI 0)]) (by decide) (by decide +kernel) (by decide +kernel) (by decide +kernel) (by decide) (fun _ => rfl) (Nat.le_of_ble_eq_true rfl) (Nat.le_of_ble_eq_true rfl) (by decide +kernel) (Nat.le_of_ble_eq_true rfl) (zhb_app _ _ (zhb_o3 rfl) (yXC_b (Nat.le_of_ble_eq_true rfl))) rfl rfl (Nat.le_of_ble_eq_true rfl) (fun ad hf => ?_)
  refine zgo (hN.R (kc := 11) (ks := 607) hf (Nat.le_of_ble_eq_true rfl) (Nat.le_of_ble_eq_true rfl)) 9 1 rfl ?_
  refine zn_init true hN hf iX2 (fun _ => rfl) rfl (by decide +kernel) (by decide +kernel) (by decide +kernel) ⟨(by decide +kernel), (by decide +kernel), (by decide +kernel)⟩ (idx := 18) (show Cond.methodLinkNest (zcn 3) 18 yX2_init "RepealedLaws" = zn4 from rfl) (by decide +kernel) rfl (by decide) (by decide) (Nat.le_of_ble_eq_true rfl) (Nat.le_of_ble_eq_true rfl) (Nat.le_of_ble_eq_true rfl) (Nat.le_of_ble_eq_true rfl) (Nat.le_of_ble_eq_true rfl) (Nat.le_of_ble_eq_true rfl) (zhb_app _ _ (zhb_o3 rfl) (yXC_b (Nat.le_of_ble_eq_true rfl))) (zhc_of (hP_c _ _)) rfl rfl (fun ad hf => ?_)
  show CN ad 12 667 23 [some (.ref 0), none] [.ref 11, .ref 0] ([zo3 (.ref 1) .null .null .null .null] ++ yXC ++ yXP)
  refine zn_putF hN (by decide) (i := 1) (idx := 19) rfl rfl (fun _ => rfl) (fun _ => rfl) rfl (by decide) (by decide +kernel) ?_
  refine zgo (hN.R (kc := 12) (ks := 667) hf (Nat.le_of_ble_eq_true rfl) (Nat.le_of_ble_eq_true rfl)) 12 1 rfl ?_
  show CN ad 12 667 27 [some (.ref 0), none] [.ref 0] ([zo3 (.ref 1) (.ref 11) .null .null .null] ++ yXC ++ yXP)
  refine zn_new hN hf (ci := 1) (idx := 23) (fs := [.null, .int (nI 0), .int (nI 0)]) (by decide) (by decide +kernel) (by decide +kernel) (by decide +kernel) (by decide) (fun _ => rfl) (Nat.le_of_ble_eq_true rfl) (Nat.le_of_ble_eq_true rfl) (by decide +kernel) (Nat.le_of_ble_eq_true rfl) (zhb_app _ _ (zhb_app _ _ (zhb_o3 rfl) (yXC_b (Nat.le_of_ble_eq_true rfl))) (yXP_b (Nat.le_of_ble_eq_true rfl))) rfl rfl (Nat.le_of_ble_eq_true rfl) (fun ad hf => ?_)
  refine zgo (hN.R (kc := 13) (ks := 670) hf (Nat.le_of_ble_eq_true rfl) (Nat.le_of_ble_eq_true rfl)) 14 1 rfl ?_
  refine zn_init false hN hf iX1 (fun _ => rfl) rfl (by decide +kernel) (by decide +kernel) (by decide +kernel) ⟨(by decide +kernel), (by decide +kernel), (by decide +kernel)⟩ (idx := 25) (show Cond.methodLink (zcn 3) 25 yX1_init ∈ zt by decide +kernel) (by decide +kernel) rfl (by decide) (by decide) (Nat.le_of_ble_eq_true rfl) (Nat.le_of_ble_eq_true rfl) (Nat.le_of_ble_eq_true rfl) (Nat.le_of_ble_eq_true rfl) (Nat.le_of_ble_eq_true rfl) (Nat.le_of_ble_eq_true rfl) (zhb_app _ _ (zhb_app _ _ (zhb_o3 rfl) (yXC_b (Nat.le_of_ble_eq_true rfl))) (yXP_b (Nat.le_of_ble_eq_true rfl))) (zhc_of hHo_c) rfl rfl (fun ad hf => ?_)
  show CN ad 74 4306 34 [some (.ref 0), none] [.ref 13, .ref 0] ([zo3 (.ref 1) (.ref 11) .null .null .null] ++ yXC ++ yXP ++ yXH)
  refine zn_putF hN (by decide) (i := 2) (idx := 26) rfl rfl (fun _ => rfl) (fun _ => rfl) rfl (by decide) (by decide +kernel) ?_
  refine zgo (hN.R (kc := 74) (ks := 4306) hf (Nat.le_of_ble_eq_true rfl) (Nat.le_of_ble_eq_true rfl)) 17 2 rfl ?_
  show CN ad 74 4306 39 [some (.ref 0), none] [.int (nI 2), .ref 0] ([zo3 (.ref 1) (.ref 11) (.ref 13) .null .null] ++ yXC ++ yXP ++ yXH)
  refine zn_newq hN hf (idx := 7) (n := 2) (by decide +kernel) (by decide) (Nat.le_of_ble_eq_true rfl) (Nat.le_of_ble_eq_true rfl) (by decide +kernel) (Nat.le_of_ble_eq_true rfl) (zhb_app _ _ (zhb_app _ _ (zhb_app _ _ (zhb_o3 rfl) (yXC_b (Nat.le_of_ble_eq_true rfl))) (yXP_b (Nat.le_of_ble_eq_true rfl))) (yXH_b (Nat.le_of_ble_eq_true rfl))) rfl rfl (Nat.le_of_ble_eq_true rfl) (fun ad hf => ?_)
  show CN ad 75 4308 42 [some (.ref 0), none] [.ref 75, .ref 0] ([zo3 (.ref 1) (.ref 11) (.ref 13) .null .null] ++ yXC ++ yXP ++ yXH ++ [.inr (.inr (2, fun _ => none))])
  refine zn_putF hN (by decide) (i := 3) (idx := 30) rfl rfl (fun _ => rfl) (fun _ => rfl) rfl (by decide) (by decide +kernel) ?_
  refine zgo (hN.R (kc := 75) (ks := 4308) hf (Nat.le_of_ble_eq_true rfl) (Nat.le_of_ble_eq_true rfl)) 21 2 rfl ?_
  show CN ad 75 4308 47 [some (.ref 0), some (.int (nI 0))] [] ([(zo3 (.ref 1) (.ref 11) (.ref 13) (.ref 75) .null)] ++ yXC ++ yXP ++ yXH ++ [.inr (.inr (2, fun _ => none))] ++ [])
  rw [← gho_0 76]
  refine zloop 2 (fun i => ∀ (ad : Nat → Nat) (y : Int32), zfx f ad → y = nI i → CN ad (75 + 10 * i) (4308 + 605 * i) 47 [some (.ref 0), some (.int y)] [] (hXo (zo3 (.ref 1) (.ref 11) (.ref 13) (.ref 75) .null) i)) ?_ ?_ _ _ hf rfl
  · rintro ad y hf rfl
    refine zgo (hN.R (kc := 75 + 10 * 2) (ks := 4308 + 605 * 2) hf (by omega) (by omega)) 23 3 rfl ?_
    refine And.intro (fun _ => ?_) (fun c => absurd (nI_le (Nat.le_refl 2) (by decide)) c)
    refine zgo (hN.R (kc := 75 + 10 * 2) (ks := 4308 + 605 * 2) hf (by omega) (by omega)) 35 2 rfl ?_
    refine zmask (hN.R (kc := 75 + 10 * 2) (ks := 4308 + 605 * 2) hf (by omega) (by omega)) [true, false] ?_
    refine zn_newa hN hf (atype := .boolean) (t := 2) (n := 2) rfl (fun _ => rfl) (by decide +kernel) rfl (by decide) (by decide) (by omega) (by omega) (by decide +kernel) (by rw [hXo_len]; decide) (by rw [hXo_len]; exact hXo_b (Nat.le_refl _) (zhb_o3 rfl)) ?_ ?_ (fun ad hf => ?_) (by rw [hXo_len]; decide)
    · rw [hXo_len]; rfl
    · rw [hXo_len]; rfl
    rw [hXo_len]
    refine zn_putF hN (by decide) (i := 4) (idx := 34) rfl rfl (fun _ => rfl) (fun _ => rfl) rfl (by decide) (by decide +kernel) ?_
    refine zgo (hN.R (kc := 75 + 10 * 2 + 1) (ks := 4308 + 605 * 2 + 2) hf (by omega) (by omega)) 39 1 rfl ?_
    exact rfl
  · rintro i hi ih ad y hf rfl
    have hlen := hXo_len (zo3 (.ref 1) (.ref 11) (.ref 13) (.ref 75) .null) i
    refine zgo (hN.R (kc := 75 + 10 * i) (ks := 4308 + 605 * i) hf (by omega) (by omega)) 23 3 rfl ?_
    refine And.intro (fun c => absurd c (nI_ge hi (by decide))) (fun _ => ?_)
    refine zgo (hN.R (kc := 75 + 10 * i) (ks := 4308 + 605 * i) hf (by omega) (by omega)) 26 3 rfl ?_
    have hbb : zhb (hXo (zo3 (.ref 1) (.ref 11) (.ref 13) (.ref 75) .null) i).length (hXo (zo3 (.ref 1) (.ref 11) (.ref 13) (.ref 75) .null) i) := by
      rw [hlen]
      refine hXo_b (Nat.le_refl _) (zhb_o3 ?_)
      simp only [zvb]
      rw [zble (show 1 + 1 ≤ 76 + 10 * i by omega), zble (show 11 + 1 ≤ 76 + 10 * i by omega), zble (show 13 + 1 ≤ 76 + 10 * i by omega), zble (show 75 + 1 ≤ 76 + 10 * i by omega)]
      rfl
    refine zn_new hN hf (ci := 0) (idx := 7) (fs := [.null, .null, .null, .null, .null, .null, .null, .null, .null, .int (nI 0), .int (nI 0), .int (nI 0)]) (by decide) (by decide +kernel) (by decide +kernel) (by decide +kernel) (by decide) (fun _ => rfl) (by omega) (by show 4308 + 605 * i + 12 ≤ 5520; omega) (by decide +kernel) (by omega) hbb ?_ ?_ (by omega) (fun ad hf => ?_)
    · simp only [zlb]
      rw [zble (show 0 + 1 ≤ (hXo (zo3 (.ref 1) (.ref 11) (.ref 13) (.ref 75) .null) i).length by omega)]
      rfl
    · simp only [zvb]
      rw [zble (show 75 + 1 ≤ (hXo (zo3 (.ref 1) (.ref 11) (.ref 13) (.ref 75) .null) i).length by omega)]
      rfl
    refine zgo (hN.R (kc := 75 + 10 * i + 1) (ks := 4308 + 605 * i + 12) hf (by omega) (by omega)) 30 1 rfl ?_
    refine zn_init false hN hf iX0 (fun _ => rfl) rfl (by decide +kernel) (by decide +kernel) (by decide +kernel) ⟨(by decide +kernel), (by decide +kernel), (by decide +kernel)⟩ (idx := 9) (show Cond.methodLink (zcn 3) 9 yX0_init ∈ zt by decide +kernel) (by decide +kernel) rfl (by decide) (by decide) (Nat.le_of_ble_eq_true rfl) (by show 75 + 10 * i + 1 + 9 ≤ 96; omega) (by show 4308 + 605 * i + 12 + 593 ≤ 5520; omega) (by rw [hlen]; show 76 + 10 * i + 10 < 1000; omega) (by decide) (by omega) hbb (zhc_C _) ?_ ?_ (fun ad hf => ?_)
    · simp only [zlb]
      rw [zble (show 0 + 1 ≤ (hXo (zo3 (.ref 1) (.ref 11) (.ref 13) (.ref 75) .null) i).length + 1 by omega)]
      rfl
    · simp only [zvb]
      rw [zble (show (hXo (zo3 (.ref 1) (.ref 11) (.ref 13) (.ref 75) .null) i).length + 1 ≤ (hXo (zo3 (.ref 1) (.ref 11) (.ref 13) (.ref 75) .null) i).length + 1 from Nat.le_refl _), zble (show 75 + 1 ≤ (hXo (zo3 (.ref 1) (.ref 11) (.ref 13) (.ref 75) .null) i).length + 1 by omega)]
      rfl
    rw [hlen]
    refine zn_ast hN (a := 75) (b := 76 + 10 * i) (n := 2) (i := i) (g := gho 76 i) (vs := ([.ref 1, .ref 2, .ref 3, .ref 4, .ref 5, .ref 6, .ref 7, .ref 8, .ref 9, .int (v00 30 9 0), .int (v00 30 10 0), .int (v00 30 11 0)] : List Value).map (zvu (76 + 10 * i))) rfl ?_ hi (by decide) (by decide +kernel) ?_
    · rw [zg_eq, List.getElem?_append_right (by omega), hlen, Nat.sub_self]
      rfl
    show CN ad (75 + 10 * i + 1 + 9) (4308 + 605 * i + 12 + 593) 65 [some (.ref 0), some (.int (nI i))] [] ([(zo3 (.ref 1) (.ref 11) (.ref 13) (.ref 75) .null)] ++ yXC ++ yXP ++ yXH ++ [.inr (.inr (2, va_up (gho 76 i) i (some (76 + 10 * i))))] ++ (zbk 76 i ++ (hC (v00 30)).map (zcu (76 + 10 * i))))
    rw [gho_s]
    refine zgo (hN.R (kc := 75 + 10 * i + 1 + 9) (ks := 4308 + 605 * i + 12 + 593) hf (by omega) (by omega)) 33 2 rfl ?_
    have h9 := ih ad _ hf (nI_add i 1)
    rw [show 75 + 10 * (i + 1) = 75 + 10 * i + 1 + 9 by omega, show 4308 + 605 * (i + 1) = 4308 + 605 * i + 12 + 593 by omega] at h9
    exact h9
