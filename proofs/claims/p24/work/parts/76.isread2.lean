/-! isRead: its walk -/
theorem hLL_len (x y : ZX) : (hLL x y).length = 194 := by rw [hLL, List.length_append, List.length_map, ZXh_len, ZXh_len]
theorem hLL_l2 (x y x2 y2 : ZX) : (hLL x2 y2).length = (hLL x y).length := by rw [hLL_len, hLL_len]
theorem i_as (a b c : Int32) : a + b - c = a + (b - c) := by rw [Int32.sub_eq_add_neg, Int32.add_assoc, ← Int32.sub_eq_add_neg]
set_option maxHeartbeats 4000000 in
set_option maxRecDepth 20000 in
theorem l_isRead {S : Nat} {x y : ZX} (hS0 : S < 2 ^ 20) (h : RR S x y) (a b : Int32) : ∃ x2 y2, RR (S + 6) x2 y2 ∧ ZM yL_isRead cL_isRead 14 (some .boolean) 7 155 [.ref 0, .ref 97, .int a, .int b] (hLL x y) (some (.int (b2i true))) (hLL x2 y2) := by
  obtain ⟨⟨e1, e2, e3, e4, e5, e6⟩, ⟨n, s, hG, hM⟩, hH, hV⟩ := id h
  have hm := hG.1
  have hs := hG.2.2.1
  have hsS := hG.2.2.2.1
  have ho : y.o < 6 := by rw [← e1]; exact e3
  have hk : y.k ≤ 6 := by rw [← e2]; exact e4
  obtain ⟨f, hf⟩ : ∃ f, f = rB a b := ⟨_, rfl⟩
  obtain ⟨g, hg⟩ : ∃ g, g = fun k => mB (f k) := ⟨_, rfl⟩
  have hfo : ∀ k, okB (f k) := fun k => by rw [hf]; exact rB_ok a b k
  have hgo : ∀ k, okB (g k) := fun k => by rw [hg]; exact mB_ok (hfo k)
  obtain ⟨m, h0, h6, em⟩ : ∃ m, 0 < m ∧ m ≤ 6 ∧ m = 1 + upn a 6 := ⟨_, by omega, by have := upn_lt a (m := 6) (by decide); omega, rfl⟩
  have eM : nI 1 + nI (upn a 6) = nI m := by rw [nI_add, em]
  have hlen := fBs_len f m
  have hbok := PB_ok (pX_ok x f hfo m).1
  obtain ⟨d, s2, d1, d2, d3, d4, d5, d6⟩ := rd_good (fBs f m) 0 hbok hG (by rw [hlen]; omega) hM
  rw [hlen] at d1 d2 d6
  rw [← fBs_map] at d3 d5
  have eg : (fun i => mB (f i)) = g := hg.symm
  rw [eg] at d3 d5
  rw [Nat.zero_add] at d4 d5
  have hrx := p_read x f hfo h0 h6 hm e3 e4
  have hry := p_read y g hgo h0 h6 (mr_WM hM hm) ho hk
  rw [d4] at hrx
  rw [d5] at hry
  refine ⟨rX (pX x f m) (rdl (fBs f m) x.v 0).1, rX (pX y g m) (rdl (fBs g m) y.v 0).1, RR_read h f g m (S + 6) (by omega) ⟨n + d, s2, d2.up (by omega), d3⟩, ?_⟩
  generalize rdl (fBs f m) x.v 0 = RX at d2 d3 d4 d6 hrx ⊢
  generalize rdl (fBs g m) y.v 0 = RY at d3 d5 hry ⊢
  have hm2 : WM (rX (pX x f m) RX.1).v (n + d) := d2.1
  have hmk : ∀ k, WM (pX x f k).v n := fun k => by rw [(pX_r x f k).1]; exact hm
  refine zm_of 5 qL_isRead rfl rfl kL_isRead (hLL_l2 _ _ _ _) (Nat.le_of_ble_eq_true rfl) (fun C hC0 => ?_)
  refine zgo hC0 0 1 rfl ?_
  refine zcallVb (sg := zbl 0 97) hC0 (o_wipe x) (lSBo _ _ _) lnd1 (Nat.le_of_ble_eq_true rfl) vX3_wipe lk5_23 (by decide +kernel : decode cL_isRead 1 = .ok (.invokevirtual 23, 3)) rfl rfl rfl (Nat.le_of_ble_eq_true rfl) (Nat.le_of_ble_eq_true rfl) (Nat.le_of_ble_eq_true rfl) ?_
  refine zgo hC0 2 1 rfl ?_
  refine And.intro (fun c => absurd c (nI_pos (by omega))) (fun _ => ?_)
  refine zgo hC0 3 1 rfl ?_
  refine zcallVb (sg := zbl 97 97) hC0 (o_wipe y) (lSBp _ _ _) lnd2 (Nat.le_of_ble_eq_true rfl) vX3_wipe lk5_23 (by decide +kernel : decode cL_isRead 8 = .ok (.invokevirtual 23, 3)) rfl rfl rfl (Nat.le_of_ble_eq_true rfl) (Nat.le_of_ble_eq_true rfl) (Nat.le_of_ble_eq_true rfl) ?_
  refine zgo hC0 5 1 rfl ?_
  refine And.intro (fun c => absurd c (nI_pos (by omega))) (fun _ => ?_)
  refine zgo hC0 6 2 rfl ?_
  refine zgo hC0 9 4 rfl ?_
  show C 25 [some (.ref 0), some (.ref 97), some (.int a), some (.int b), some (.int (nI 1)), none, none, none, none, none, none, none, none, none] [.int (nI 6), .int a, .int (nI 1)] (hLL (pX x f 0) (pX y g 0))
  refine zcallS hC0 (mL_up a 6 (by decide) (by decide) _) vL_up lk5_27 (by decide +kernel : decode cL_isRead 25 = .ok (.invokestatic 27, 3)) rfl rfl (Nat.le_of_ble_eq_true rfl) (Nat.le_of_ble_eq_true rfl) (Nat.le_of_ble_eq_true rfl) ?_
  refine zgo hC0 14 4 rfl ?_
  refine zcallVb (sg := zbl 0 97) hC0 (o_count (pX x f 0) (j := 4) (by decide) hm) (lSBo _ _ _) lnd1 (Nat.le_of_ble_eq_true rfl) vX3_count lk5_33 (by decide +kernel : decode cL_isRead 33 = .ok (.invokevirtual 33, 3)) rfl rfl rfl (Nat.le_of_ble_eq_true rfl) (Nat.le_of_ble_eq_true rfl) (Nat.le_of_ble_eq_true rfl) ?_
  refine zgo hC0 19 3 rfl ?_
  refine zcallVb (sg := zbl 0 97) hC0 (o_count (pX x f 0) (j := 11) (by decide) hm) (lSBo _ _ _) lnd1 (Nat.le_of_ble_eq_true rfl) vX3_count lk5_33 (by decide +kernel : decode cL_isRead 41 = .ok (.invokevirtual 33, 3)) rfl rfl rfl (Nat.le_of_ble_eq_true rfl) (Nat.le_of_ble_eq_true rfl) (Nat.le_of_ble_eq_true rfl) ?_
  refine zgo hC0 23 3 rfl ?_
  show C 49 [some (.ref 0), some (.ref 97), some (.int a), some (.int b), some (.int (nI 1)), some (.int (nI 1 + nI (upn a 6))), some (.int (x.v 9 0)), some (.int (x.v 11 0)), some (.int (nI 0)), none, none, none, none, none] [] (hLL (pX x f 0) (pX y g 0))
  rw [eM]
  refine zloop m (fun k => ∀ (kk : Int32) (z1 z2 z3 z4 z5 : Option Value), kk = nI k → C 49 [some (.ref 0), some (.ref 97), some (.int a), some (.int b), some (.int (nI 1)), some (.int (nI m)), some (.int (x.v 9 0)), some (.int (x.v 11 0)), some (.int kk), z1, z2, z3, z4, z5] [] (hLL (pX x f k) (pX y g k))) ?_ ?_ _ _ _ _ _ _ rfl
  · rintro kk z1 z2 z3 z4 z5 rfl
    refine zgo hC0 26 3 rfl ?_
    refine And.intro (fun _ => ?_) (fun c => absurd (Int32.le_refl _) c)
    refine zgo hC0 98 1 rfl ?_
    refine zcallVb (sg := zbl 0 97) hC0 hrx (lSBo _ _ _) lnd1 (Nat.le_of_ble_eq_true rfl) vX3_read lk5_43 (by decide +kernel : decode cL_isRead 186 = .ok (.invokevirtual 43, 3)) rfl rfl rfl (Nat.le_of_ble_eq_true rfl) (Nat.le_of_ble_eq_true rfl) (Nat.le_of_ble_eq_true rfl) ?_
    refine zgo hC0 100 3 rfl ?_
    refine And.intro (fun c => absurd c (by decide)) (fun _ => ?_)
    refine zgo hC0 103 2 rfl ?_
    refine zcallVb (sg := zbl 97 97) hC0 hry (lSBp _ _ _) lnd2 (Nat.le_of_ble_eq_true rfl) vX3_read lk5_43 (by decide +kernel : decode cL_isRead 199 = .ok (.invokevirtual 43, 3)) rfl rfl rfl (Nat.le_of_ble_eq_true rfl) (Nat.le_of_ble_eq_true rfl) (Nat.le_of_ble_eq_true rfl) ?_
    refine zgo hC0 106 1 rfl ?_
    refine And.intro (fun c => absurd (rfl) c) (fun _ => ?_)
    refine zgo hC0 107 2 rfl ?_
    refine zcallVb (sg := zbl 0 97) hC0 (o_count (rX (pX x f m) RX.1) (j := 4) (by decide) hm2) (lSBo _ _ _) lnd1 (Nat.le_of_ble_eq_true rfl) vX3_count lk5_33 (by decide +kernel : decode cL_isRead 207 = .ok (.invokevirtual 33, 3)) rfl rfl rfl (Nat.le_of_ble_eq_true rfl) (Nat.le_of_ble_eq_true rfl) (Nat.le_of_ble_eq_true rfl) ?_
    refine zgo hC0 110 4 rfl ?_
    refine And.intro (fun c => absurd ?_ c) (fun _ => ?_)
    · show RX.1 9 0 = x.v 9 0 + nI d
      rw [d2.1.1, hm.1, nI_add]
    refine zgo hC0 114 2 rfl ?_
    refine zcallVb (sg := zbl 0 97) hC0 (o_count (rX (pX x f m) RX.1) (j := 11) (by decide) hm2) (lSBo _ _ _) lnd1 (Nat.le_of_ble_eq_true rfl) vX3_count lk5_33 (by decide +kernel : decode cL_isRead 221 = .ok (.invokevirtual 33, 3)) rfl rfl rfl (Nat.le_of_ble_eq_true rfl) (Nat.le_of_ble_eq_true rfl) (Nat.le_of_ble_eq_true rfl) ?_
    refine zgo hC0 117 6 rfl ?_
    refine And.intro (fun c => absurd ?_ c) (fun _ => ?_)
    · show RX.1 11 0 = x.v 11 0 + nI m - nI d
      rw [d6, i_as, pk_sub d1]
    refine zgo hC0 123 2 rfl ?_
    refine zcallVb (sg := zbl 0 97) hC0 (o_count (rX (pX x f m) RX.1) (j := 12) (by decide) hm2) (lSBo _ _ _) lnd1 (Nat.le_of_ble_eq_true rfl) vX3_count lk5_33 (by decide +kernel : decode cL_isRead 238 = .ok (.invokevirtual 33, 3)) rfl rfl rfl (Nat.le_of_ble_eq_true rfl) (Nat.le_of_ble_eq_true rfl) (Nat.le_of_ble_eq_true rfl) ?_
    refine zgo hC0 126 1 rfl ?_
    refine And.intro (fun c => absurd (rfl) c) (fun _ => ?_)
    refine zgo hC0 127 2 rfl ?_
    refine zgo hC0 130 1 rfl ?_
    exact zret_b rfl
  · rintro i hi ih kk z1 z2 z3 z4 z5 rfl
    obtain ⟨a1, a2, a3, a4⟩ := hfo i
    obtain ⟨q1, q2, q3⟩ := pX_ok x f hfo i
    have qy := pX_q x y f g (fun k => by rw [hg]; rfl) i
    have hp1 := mL_put (pX x f i) (f i).1 (f i).2.1 (f i).2.2.1 (f i).2.2.2 a2 a3 a4 (by omega)
    have hp2 := mL_put (pX y g i) (f i).1 (5 - (f i).2.1) (((f i).2.2.1 + 1) % 3) (f i).2.2.2 a2 (by omega) (Nat.mod_lt _ (by decide)) (by rw [qy]; omega)
    rw [← mt5 a3, ← nx_at a4] at hp2
    have eX : (pX x f i).pb (f i).1 (f i).2.1 (f i).2.2.1 (f i).2.2.2 = pX x f (i + 1) := rfl
    have eY : (pX y g i).pb (f i).1 (5 - (f i).2.1) (((f i).2.2.1 + 1) % 3) (f i).2.2.2 = pX y g (i + 1) := by rw [hg]; rfl
    rw [eX] at hp1
    rw [eY] at hp2
    have f1 : nI 1 + nI (upn (rZ a b i) 9) = nI (f i).1 := by rw [nI_add, hf]; rfl
    have f2 : upn (rZ a b i >>> (nI 4 &&& 31)) (if upn b 3 = 0 then 6 else 2) = (f i).2.1 := by rw [hf]; rfl
    have f3 : upn (rZ a b i >>> (nI 7 &&& 31)) 3 = (f i).2.2.1 := by rw [hf]; rfl
    have f4 : decide (upn (rZ a b i >>> (nI 5 &&& 31)) 4 = 0) = (f i).2.2.2 := by rw [hf]; rfl
    have c130 : ∀ z5 : Option Value, C 130 [some (.ref 0), some (.ref 97), some (.int a), some (.int b), some (.int (nI 1)), some (.int (nI m)), some (.int (x.v 9 0)), some (.int (x.v 11 0)), some (.int (nI i)), some (.int (rZ a b i)), some (.int (nI (f i).1)), some (.int (nI (f i).2.1)), some (.int (nI (f i).2.2.1)), z5] [.int (b2i (f i).2.2.2)] (hLL (pX x f i) (pX y g i)) := by
      intro z5
      refine zgo hC0 72 3 rfl ?_
      refine And.intro (fun c => absurd c (by decide)) (fun _ => ?_)
      refine zgo hC0 75 5 rfl ?_
      refine zcallSb (sg := zbl 0 97) hC0 hp1 (lSBo _ _ _) lnd1 (Nat.le_of_ble_eq_true rfl) vL_put lk5_37 (by decide +kernel : decode cL_isRead 146 = .ok (.invokestatic 37, 3)) rfl rfl (Nat.le_of_ble_eq_true rfl) (Nat.le_of_ble_eq_true rfl) (Nat.le_of_ble_eq_true rfl) ?_
      refine zgo hC0 81 1 rfl ?_
      refine And.intro (fun c => absurd c (by decide)) (fun _ => ?_)
      refine zgo hC0 82 6 rfl ?_
      refine zcallS hC0 (mL_next (nI (f i).2.2.1) _) vL_next lk5_40 (by decide +kernel : decode cL_isRead 161 = .ok (.invokestatic 40, 3)) rfl rfl (Nat.le_of_ble_eq_true rfl) (Nat.le_of_ble_eq_true rfl) (Nat.le_of_ble_eq_true rfl) ?_
      refine zgo hC0 89 1 rfl ?_
      refine zcallSb (sg := zbl 97 97) hC0 hp2 (lSBp _ _ _) lnd2 (Nat.le_of_ble_eq_true rfl) vL_put lk5_37 (by decide +kernel : decode cL_isRead 166 = .ok (.invokestatic 37, 3)) rfl rfl (Nat.le_of_ble_eq_true rfl) (Nat.le_of_ble_eq_true rfl) (Nat.le_of_ble_eq_true rfl) ?_
      refine zgo hC0 91 1 rfl ?_
      refine And.intro (fun c => absurd c (by decide)) (fun _ => ?_)
      refine zgo hC0 92 2 rfl ?_
      refine zgo hC0 95 3 rfl ?_
      exact ih _ _ _ _ _ _ (nI_add i 1)
    have c98 : ∀ (mm : Nat) (z3 z4 z5 : Option Value), 0 < mm → mm < 100 → mm = (if upn b 3 = 0 then 6 else 2) → C 98 [some (.ref 0), some (.ref 97), some (.int a), some (.int b), some (.int (nI 1)), some (.int (nI m)), some (.int (x.v 9 0)), some (.int (x.v 11 0)), some (.int (nI i)), some (.int (rZ a b i)), some (.int (nI (f i).1)), z3, z4, z5] [.int (nI mm), .int (rZ a b i >>> (nI 4 &&& 31))] (hLL (pX x f i) (pX y g i)) := by
      intro mm z3 z4 z5 m0 m1 e
      refine zcallS hC0 (mL_up (rZ a b i >>> (nI 4 &&& 31)) mm m0 (by omega) _) vL_up lk5_27 (by decide +kernel : decode cL_isRead 98 = .ok (.invokestatic 27, 3)) rfl rfl (Nat.le_of_ble_eq_true rfl) (Nat.le_of_ble_eq_true rfl) (Nat.le_of_ble_eq_true rfl) ?_
      rw [e, f2]
      refine zgo hC0 56 5 rfl ?_
      refine zcallS hC0 (mL_up (rZ a b i >>> (nI 7 &&& 31)) 3 (by decide) (by decide) _) vL_up lk5_27 (by decide +kernel : decode cL_isRead 109 = .ok (.invokestatic 27, 3)) rfl rfl (Nat.le_of_ble_eq_true rfl) (Nat.le_of_ble_eq_true rfl) (Nat.le_of_ble_eq_true rfl) ?_
      rw [f3]
      refine zgo hC0 62 5 rfl ?_
      refine zcallS hC0 (mL_up (rZ a b i >>> (nI 5 &&& 31)) 4 (by decide) (by decide) _) vL_up lk5_27 (by decide +kernel : decode cL_isRead 119 = .ok (.invokestatic 27, 3)) rfl rfl (Nat.le_of_ble_eq_true rfl) (Nat.le_of_ble_eq_true rfl) (Nat.le_of_ble_eq_true rfl) ?_
      refine zgo hC0 68 1 rfl ?_
      by_cases c : upn (rZ a b i >>> (nI 5 &&& 31)) 4 = 0
      · rw [decide_eq_true c] at f4
        rw [← f4] at c130
        rw [c]
        refine And.intro (fun q => absurd rfl q) (fun _ => ?_)
        refine zgo hC0 69 2 rfl ?_
        exact c130 _
      · rw [decide_eq_false c] at f4
        rw [← f4] at c130
        refine And.intro (fun _ => ?_) (fun q => absurd q (nI_ne0 (by omega) (by have := upn_lt (rZ a b i >>> (nI 5 &&& 31)) (m := 4) (by decide); omega)))
        refine zgo hC0 71 1 rfl ?_
        exact c130 _
    rw [← f1] at c98
    refine zgo hC0 26 3 rfl ?_
    refine And.intro (fun c => absurd c (nI_ge hi (by omega))) (fun _ => ?_)
    refine zgo hC0 29 13 rfl ?_
    show C 74 [some (.ref 0), some (.ref 97), some (.int a), some (.int b), some (.int (nI 1)), some (.int (nI m)), some (.int (x.v 9 0)), some (.int (x.v 11 0)), some (.int (nI i)), some (.int (rZ a b i)), z2, z3, z4, z5] [.int (nI 9), .int (rZ a b i), .int (nI 1)] (hLL (pX x f i) (pX y g i))
    refine zcallS hC0 (mL_up (rZ a b i) 9 (by decide) (by decide) _) vL_up lk5_27 (by decide +kernel : decode cL_isRead 74 = .ok (.invokestatic 27, 3)) rfl rfl (Nat.le_of_ble_eq_true rfl) (Nat.le_of_ble_eq_true rfl) (Nat.le_of_ble_eq_true rfl) ?_
    refine zgo hC0 43 7 rfl ?_
    refine zcallS hC0 (mL_up b 3 (by decide) (by decide) _) vL_up lk5_27 (by decide +kernel : decode cL_isRead 86 = .ok (.invokestatic 27, 3)) rfl rfl (Nat.le_of_ble_eq_true rfl) (Nat.le_of_ble_eq_true rfl) (Nat.le_of_ble_eq_true rfl) ?_
    refine zgo hC0 51 1 rfl ?_
    by_cases c : upn b 3 = 0
    · rw [if_pos c] at c98
      rw [c]
      refine And.intro (fun q => absurd rfl q) (fun _ => ?_)
      refine zgo hC0 52 2 rfl ?_
      exact c98 6 _ _ _ (by decide) (by decide) rfl
    · rw [if_neg c] at c98
      refine And.intro (fun _ => ?_) (fun q => absurd q (nI_ne0 (by omega) (by have := upn_lt b (m := 3) (by decide); omega)))
      refine zgo hC0 54 1 rfl ?_
      exact c98 2 _ _ _ (by decide) (by decide) rfl
