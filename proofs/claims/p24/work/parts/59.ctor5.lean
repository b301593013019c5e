/-! the constructor of History -/
def gho (K i : Nat) : Nat → Option Nat := fun j => if j < i then some (K + 10 * j) else none
theorem gho_s (K i : Nat) : va_up (gho K i) i (some (K + 10 * i)) = gho K (i + 1) := by
  funext j
  unfold va_up gho
  by_cases e : j = i
  · subst e
    rw [if_pos rfl, if_pos (by omega)]
  · rw [if_neg e]
    by_cases c : j < i
    · rw [if_pos c, if_pos (by omega)]
    · rw [if_neg c, if_neg (by omega)]
theorem gho_0 (K : Nat) : gho K 0 = fun _ => none := by
  funext j
  unfold gho
  rw [if_neg (by omega)]
def hHo (i : Nat) : List ZC := [.inr (.inl (1, [.ref 1, .int (nI 0), .int (nI 0)])), .inr (.inr (6, gho 2 i))] ++ zbk 2 i
theorem hHo_len (i : Nat) : (hHo i).length = 2 + 10 * i := by
  rw [hHo, List.length_append, zbk_len]
  rfl
theorem hHo_b {N i : Nat} (h : 2 + 10 * i ≤ N) : zhb N (hHo i) := by
  refine ⟨?_, ?_, zbk_b i h⟩
  · show ((Nat.ble (1 + 1) N || Nat.ble 1000 1) && true) = true
    rw [show Nat.ble (1 + 1) N = true from Nat.ble_eq_true_of_le (by omega)]
    rfl
  · intro j k hj
    have hj : gho 2 i j = some k := hj
    unfold gho at hj
    by_cases c : j < i
    · rw [if_pos c] at hj
      have e := Option.some.inj hj
      left
      omega
    · rw [if_neg c] at hj
      cases hj
theorem zble {a N : Nat} (h : a ≤ N) : Nat.ble a N = true := Nat.ble_eq_true_of_le h
theorem zhc_C (v : CV) : zhc 10 (hC v) := zhc_of (hC_c v)
set_option maxHeartbeats 4000000 in
set_option maxRecDepth 20000 in
theorem iX1 : ZI yX1_init cX1_init 2 2 70 61 3636 1 [.null, .int (nI 0), .int (nI 0)] (hHo 6) := by
  refine zi_of 1 qX1_init rfl rfl kX1_init rfl (by decide) (fun f CN hN => ?_)
  have hf := zfx_rf f
  refine zgo (hN.R (kc := 0) (ks := 0) hf (Nat.zero_le _) (Nat.zero_le _)) 0 1 rfl ?_
  refine zn_obj hN (idx := 3) (by decide +kernel) (by decide +kernel) rfl (by decide) (by decide) ?_
  refine zgo (hN.R (kc := 0) (ks := 0) hf (Nat.zero_le _) (Nat.zero_le _)) 2 2 rfl ?_
  refine zn_newq hN hf (idx := 9) (n := 6) (by decide +kernel) (by decide) (Nat.le_of_ble_eq_true rfl) (Nat.le_of_ble_eq_true rfl) (by decide +kernel) (Nat.le_of_ble_eq_true rfl) ⟨rfl, trivial⟩ rfl rfl (Nat.le_of_ble_eq_true rfl) (fun ad hf => ?_)
  refine zn_putF hN (by decide) (i := 0) (idx := 11) rfl rfl (fun _ => rfl) (fun _ => rfl) rfl (by decide) (by decide +kernel) ?_
  refine zgo (hN.R (kc := 1) (ks := 6) hf (Nat.le_of_ble_eq_true rfl) (Nat.le_of_ble_eq_true rfl)) 6 2 rfl ?_
  show CN ad 1 6 15 [some (.ref 0), some (.int (nI 0))] [] [.inr (.inl (1, [.ref 1, .int (nI 0), .int (nI 0)])), .inr (.inr (6, fun _ => none))]
  rw [← gho_0 2]
  refine zloop 6 (fun i => ∀ (ad : Nat → Nat) (y : Int32), zfx f ad → y = nI i → CN ad (1 + 10 * i) (6 + 605 * i) 15 [some (.ref 0), some (.int y)] [] (hHo i)) ?_ ?_ _ _ hf rfl
  · rintro ad y hf rfl
    refine zgo (hN.R hf (Nat.le_of_ble_eq_true rfl) (Nat.le_of_ble_eq_true rfl)) 8 3 rfl ?_
    refine And.intro (fun _ => ?_) (fun c => absurd (nI_le (Nat.le_refl 6) (by decide)) c)
    refine zgo (hN.R hf (Nat.le_of_ble_eq_true rfl) (Nat.le_of_ble_eq_true rfl)) 20 1 rfl ?_
    exact rfl
  · rintro i hi ih ad y hf rfl
    have hlen := hHo_len i
    refine zgo (hN.R hf (by omega) (by omega)) 8 3 rfl ?_
    refine And.intro (fun c => absurd c (nI_ge hi (by decide))) (fun _ => ?_)
    refine zgo (hN.R hf (by omega) (by omega)) 11 3 rfl ?_
    refine zn_new hN hf (ci := 0) (idx := 9) (fs := [.null, .null, .null, .null, .null, .null, .null, .null, .null, .int (nI 0), .int (nI 0), .int (nI 0)]) (by decide) (by decide +kernel) (by decide +kernel) (by decide +kernel) (by decide) (fun _ => rfl) (by omega) (by show 6 + 605 * i + 12 ≤ 3636; omega) (by decide +kernel) (by omega) (by rw [hlen]; exact hHo_b (Nat.le_refl _)) ?_ ?_ (by omega) (fun ad hf => ?_)
    · show ((Nat.ble (0 + 1) _ || _) && true) = true
      rw [zble (by omega)]
      rfl
    · simp only [zvb]
      rw [zble (by omega)]
      rfl
    · refine zgo (hN.R (kc := 1 + 10 * i + 1) (ks := 6 + 605 * i + 12) hf (by omega) (by omega)) 15 1 rfl ?_
      refine zn_init false hN hf iX0 (fun _ => rfl) rfl (by decide +kernel) (by decide +kernel) (by decide +kernel) ⟨by decide +kernel, by decide +kernel, by decide +kernel⟩ (idx := 17) (show Cond.methodLink (zcn 1) 17 yX0_init ∈ zt by decide +kernel) (by decide +kernel) rfl (by decide) (by decide) (Nat.le_of_ble_eq_true rfl) (by show 1 + 10 * i + 1 + 9 ≤ 61; omega) (by show 6 + 605 * i + 12 + 593 ≤ 3636; omega) (by rw [hlen]; show 2 + 10 * i + 10 < 1000; omega) (by decide) (by omega) (by rw [hlen]; exact hHo_b (Nat.le_refl _)) (zhc_C _) ?_ ?_ (fun ad hf => ?_)
      · simp only [zlb]
        rw [zble (by omega)]
        rfl
      · simp only [zvb]
        rw [zble (show (hHo i).length + 1 ≤ (hHo i).length + 1 from Nat.le_refl _), zble (show 1 + 1 ≤ (hHo i).length + 1 by omega)]
        rfl
      rw [hlen]
      refine zn_ast hN (a := 1) (b := 2 + 10 * i) (n := 6) (i := i) (vs := ([.ref 1, .ref 2, .ref 3, .ref 4, .ref 5, .ref 6, .ref 7, .ref 8, .ref 9, .int (v00 30 9 0), .int (v00 30 10 0), .int (v00 30 11 0)] : List Value).map (zvu (2 + 10 * i))) rfl ?_ hi (by decide) (by decide +kernel) ?_
      · rw [zg_eq, List.getElem?_append_right (by omega), hlen, Nat.sub_self]
        rfl
      show CN ad (1 + 10 * i + 1 + 9) (6 + 605 * i + 12 + 593) 34 [some (.ref 0), some (.int (nI i))] [] ([.inr (.inl (1, [.ref 1, .int (nI 0), .int (nI 0)])), .inr (.inr (6, va_up (gho 2 i) i (some (2 + 10 * i))))] ++ (zbk 2 i ++ (hC (v00 30)).map (zcu (2 + 10 * i))))
      rw [gho_s]
      refine zgo (hN.R (kc := 1 + 10 * i + 1 + 9) (ks := 6 + 605 * i + 12 + 593) hf (by omega) (by omega)) 18 2 rfl ?_
      have h9 := ih ad _ hf (nI_add i 1)
      rw [show 1 + 10 * (i + 1) = 1 + 10 * i + 1 + 9 by omega, show 6 + 605 * (i + 1) = 6 + 605 * i + 12 + 593 by omega] at h9
      exact h9
