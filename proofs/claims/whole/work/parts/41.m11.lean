/-! RepealedLawsModel: the text read -/
/-- the cells while a text is read: the spot, the bills read -/
def zsp (u : CV) (x r : Int32) (B : Nat → Int32) : CV := vup (vup (vup u 7 (upd (u 7) 0 x)) 8 B) 9 (upd (u 9) 0 r)
theorem zbt_1 (c : Nat) (hc : c < 2 ^ 30) (x : Int32) : zbt (nI c) (nI (c + 1)) x = decide (x = nI c) := by
  rw [Bool.eq_iff_iff]
  unfold zbt
  simp only [Bool.and_eq_true, decide_eq_true_eq]
  rw [Int32.lt_iff_toInt_lt, Int32.le_iff_toInt_le, ← Int32.toInt_inj, nI_toInt (by omega), nI_toInt (by omega)]
  omega
set_option maxHeartbeats 2000000 in
set_option maxRecDepth 20000 in
theorem mX4_isHere (u : CV) (q i : Nat) (r : Int32) (B : Nat → Int32) (a b : Nat) (h6 : u 6 0 = nI q) (hq : q ≤ 60) (hi : i < 1000) (ha : 33 ≤ a) (ha2 : a < 2 ^ 20) (hb : b < 2 ^ 20) : ZM yX4_isHere cX4_isHere 3 (some .boolean) 1 25 [.ref 0, .int (nI a), .int (nI b)] (hM (zsp u (nI i) r B)) (some (.int (b2i (zbt (nI a) (nI (b + 1)) (zSg (u 5) q i))))) (hM (zsp u (nI i) r B)) := by
  refine zm_of 4 qX4_isHere rfl rfl kX4_isHere rfl (Nat.le_of_ble_eq_true rfl) (fun C hC0 => ?_)
  refine zgo hC0 0 5 rfl ?_
  refine And.intro (fun (c : u 6 0 ≤ nI i) => ?_) (fun (c : ¬ u 6 0 ≤ nI i) => ?_)
  · rw [h6] at c
    have e : ¬ i < q := fun z => absurd c (nI_ge z (by omega))
    refine zgo hC0 19 2 rfl ?_
    refine zret_b (zb0 (zand_f1 (decide_eq_false (fun z => z ?_))))
    rw [zSg, if_neg e]
    exact nI_lt (by omega) (by omega)
  · rw [h6] at c
    have e : i < q := by
      rcases Nat.lt_or_ge i q with z | z
      · exact z
      · exact absurd (nI_le z (by omega)) c
    have e2 : (nI i).toNatClampNeg = i := nI_clamp (by omega)
    refine zgo hC0 5 10 rfl ?_
    refine And.intro (vp_in_nI (N := 60) (by omega) (by decide)) ?_
    show C 25 [some (.ref 0), some (.int (nI a)), some (.int (nI b))] [.long (nI b).toInt64, .long (nI a).toInt64, .long (u 5 (nI i).toNatClampNeg).toInt64] (hM (zsp u (nI i) r B))
    rw [e2, nI_l (show a < 2 ^ 31 by omega), nI_l (show b < 2 ^ 31 by omega)]
    refine zcallS hC0 (mX4_in (u 5 i).toInt64 (lN a) (lN b) (hM (zsp u (nI i) r B))) vX4_in lk4_34 (by decide +kernel : decode cX4_isHere 25 = .ok (.invokestatic 34, 3)) rfl rfl (Nat.le_of_ble_eq_true rfl) (Nat.le_of_ble_eq_true rfl) (Nat.le_of_ble_eq_true rfl) ?_
    rw [zin64_eq (u 5 i) (by omega) (by omega)]
    have e3 : zSg (u 5) q i = u 5 i := by rw [zSg, if_pos e]
    rw [e3] at hC0
    refine zgo hC0 16 1 rfl ?_
    refine And.intro (fun c1 => ?_) (fun c1 => ?_)
    · refine zgo hC0 19 2 rfl ?_
      exact zret_b (zb0 (b2i_f c1))
    · refine zgo hC0 17 2 rfl ?_
      refine zgo hC0 20 1 rfl ?_
      exact zret_b (zb1 (b2i_t c1))
set_option maxHeartbeats 2000000 in
set_option maxRecDepth 20000 in
theorem mX4_takesOne (u : CV) (q i : Nat) (r : Int32) (B : Nat → Int32) (a : Nat) (h6 : u 6 0 = nI q) (hq : q ≤ 60) (hi : i < 1000) (ha : 33 ≤ a) (ha2 : a < 2 ^ 20) : ZM yX4_takesOne cX4_takesOne 3 (some .boolean) 2 47 [.ref 0, .int (nI a)] (hM (zsp u (nI i) r B)) (some (.int (b2i (decide (zSg (u 5) q i = nI a))))) (hM (zsp u (nI (i + bN (decide (zSg (u 5) q i = nI a)))) r B)) := by
  refine zm_of 4 qX4_takesOne rfl rfl kX4_takesOne rfl (Nat.le_of_ble_eq_true rfl) (fun C hC0 => ?_)
  refine zgo hC0 0 3 rfl ?_
  refine zcallV hC0 (mX4_isHere u q i r B a a h6 hq hi ha ha2 ha2) vX4_isHere lk4_181 (by decide +kernel : decode cX4_takesOne 3 = .ok (.invokevirtual 181, 3)) rfl rfl rfl (Nat.le_of_ble_eq_true rfl) (Nat.le_of_ble_eq_true rfl) (Nat.le_of_ble_eq_true rfl) ?_
  rw [zbt_1 a (by omega)]
  cases h : decide (zSg (u 5) q i = nI a) with
  | true =>
    rw [h] at hC0
    refine zgo hC0 4 6 rfl ?_
    refine And.intro (fun c => absurd c (by decide)) (fun _ => ?_)
    refine zgo hC0 10 2 rfl ?_
    refine zgo hC0 13 4 rfl ?_
    refine ⟨b2i_nar true, rfl, ?_⟩
    show hM (zsp u (nI i + nI 1) r B) = _
    rw [nI_add]
    rfl
  | false =>
    rw [h] at hC0
    refine zgo hC0 4 6 rfl ?_
    refine And.intro (fun _ => ?_) (fun c => absurd rfl c)
    refine zgo hC0 12 5 rfl ?_
    refine ⟨b2i_nar false, rfl, ?_⟩
    show hM (zsp u (nI i + nI 0) r B) = _
    rw [nI_add]
    rfl
/-- how many signs of a bill at i are right -/
def zgd (g : Nat → Int32) (i : Nat) : Nat := match zbt (nI 49) (nI 58) (g i) with
  | false => 0
  | true => match zbt (nI 48) (nI 54) (g (i + 1)) with
    | false => 1
    | true => match decide (g (i + 2) = nI 97) || (decide (g (i + 2) = nI 100) || decide (g (i + 2) = nI 102)) with
      | false => 2
      | true => 3
def zpn (g : Nat → Int32) (i : Nat) : Nat := i + 3 + bN (decide (g (i + 3) = nI 33))
/-- the number that tells a bill -/
def zBv (g : Nat → Int32) (i : Nat) : Int32 := nI 100 * (g i - nI 48) + nI 10 * (g (i + 1) - nI 48) + zSt (g (i + 2)) + zpk (decide (g (i + 3) = nI 33)) (nI 1000) (nI 0)
theorem zSg_in {T : Nat → Int32} {q i a b : Nat} (ha : 33 ≤ a) (ha2 : a < 2 ^ 20) (h : zbt (nI a) (nI b) (zSg T q i) = true) : i < q := by
  rcases Nat.lt_or_ge i q with z | z
  · exact z
  · rw [zSg, if_neg (by omega)] at h
    simp only [zbt, Bool.and_eq_true, decide_eq_true_eq] at h
    exact absurd (nI_lt (show 32 < a by omega) (by omega)) h.1
set_option maxHeartbeats 2000000 in
set_option maxRecDepth 20000 in
theorem mX4_readsBill_f (u : CV) (q i r : Nat) (B : Nat → Int32) (h6 : u 6 0 = nI q) (hq : q ≤ 60) (hi : i < 900) (hr : r < 20) (hg : ¬ zgd (zSg (u 5) q) i = 3) : ZM yX4_readsBill cX4_readsBill 2 (some .boolean) 3 69 [.ref 0] (hM (zsp u (nI i) (nI r) B)) (some (.int (b2i false))) (hM (zsp u (nI (i + zgd (zSg (u 5) q) i)) (nI r) B)) := by
  refine zm_of 4 qX4_readsBill rfl rfl kX4_readsBill rfl (Nat.le_of_ble_eq_true rfl) (fun C hC0 => ?_)
  rw [zgd] at hg hC0
  refine zgo hC0 0 3 rfl ?_
  refine zcallV hC0 (mX4_isHere u q i (nI r) B 49 57 h6 hq (by omega) (by decide) (by decide) (by decide)) vX4_isHere lk4_181 (by decide +kernel : decode cX4_readsBill 5 = .ok (.invokevirtual 181, 3)) rfl rfl rfl (Nat.le_of_ble_eq_true rfl) (Nat.le_of_ble_eq_true rfl) (Nat.le_of_ble_eq_true rfl) ?_
  show C 8 [some (.ref 0), none] [.int (b2i (zbt (nI 49) (nI 58) (zSg (u 5) q i)))] (hM (zsp u (nI i) (nI r) B))
  cases h1 : zbt (nI 49) (nI 58) (zSg (u 5) q i) with
  | false =>
    rw [h1] at hC0
    refine zgo hC0 4 1 rfl ?_
    refine And.intro (fun c => absurd rfl c) (fun _ => ?_)
    refine zgo hC0 5 2 rfl ?_
    exact zret_b rfl
  | true =>
    rw [h1] at hC0 hg
    have q1 : i < q := zSg_in (by decide) (by decide) h1
    refine zgo hC0 4 1 rfl ?_
    refine And.intro (fun _ => ?_) (fun c => absurd c (by decide))
    refine zgo hC0 7 19 rfl ?_
    refine And.intro (vp_in_nI (N := 60) (by omega) (by decide)) ?_
    show C 44 [some (.ref 0), some (.int (nI 100 * (u 5 (nI i).toNatClampNeg - nI 48)))] [.int (nI 53), .int (nI 48), .ref 0] (hM (zsp u (nI i + nI 1) (nI r) B))
    rw [nI_add]
    refine zcallV hC0 (mX4_isHere u q (i + 1) (nI r) B 48 53 h6 hq (by omega) (by decide) (by decide) (by decide)) vX4_isHere lk4_181 (by decide +kernel : decode cX4_readsBill 44 = .ok (.invokevirtual 181, 3)) rfl rfl rfl (Nat.le_of_ble_eq_true rfl) (Nat.le_of_ble_eq_true rfl) (Nat.le_of_ble_eq_true rfl) ?_
    show C 47 [some (.ref 0), some (.int (nI 100 * (u 5 (nI i).toNatClampNeg - nI 48)))] [.int (b2i (zbt (nI 48) (nI 54) (zSg (u 5) q (i + 1))))] (hM (zsp u (nI (i + 1)) (nI r) B))
    cases h2 : zbt (nI 48) (nI 54) (zSg (u 5) q (i + 1)) with
    | false =>
      rw [h2] at hC0
      refine zgo hC0 27 1 rfl ?_
      refine And.intro (fun c => absurd rfl c) (fun _ => ?_)
      refine zgo hC0 28 2 rfl ?_
      exact zret_b rfl
    | true =>
      rw [h2] at hC0 hg
      have q2 : i + 1 < q := zSg_in (by decide) (by decide) h2
      refine zgo hC0 27 1 rfl ?_
      refine And.intro (fun _ => ?_) (fun c => absurd c (by decide))
      refine zgo hC0 30 20 rfl ?_
      refine And.intro (vp_in_nI (N := 60) (by omega) (by decide)) ?_
      show C 83 [some (.ref 0), some (.int (nI 100 * (u 5 (nI i).toNatClampNeg - nI 48) + nI 10 * (u 5 (nI (i + 1)).toNatClampNeg - nI 48)))] [.int (nI 97), .ref 0] (hM (zsp u (nI (i + 1) + nI 1) (nI r) B))
      rw [nI_add]
      generalize nI 100 * (u 5 (nI i).toNatClampNeg - nI 48) + nI 10 * (u 5 (nI (i + 1)).toNatClampNeg - nI 48) = bill
      cases h3 : decide (zSg (u 5) q (i + 2) = nI 97) with
      | true => rw [h3] at hg; exact absurd rfl hg
      | false =>
        cases h4 : decide (zSg (u 5) q (i + 2) = nI 100) with
        | true => rw [h3, h4] at hg; exact absurd rfl hg
        | false =>
          cases h5 : decide (zSg (u 5) q (i + 2) = nI 102) with
          | true => rw [h3, h4, h5] at hg; exact absurd rfl hg
          | false =>
            rw [h3, h4, h5] at hC0
            refine zcallV hC0 (mX4_takesOne u q (i + 2) (nI r) B 97 h6 hq (by omega) (by decide) (by decide)) vX4_takesOne lk4_184 (by decide +kernel : decode cX4_readsBill 83 = .ok (.invokevirtual 184, 3)) rfl rfl rfl (Nat.le_of_ble_eq_true rfl) (Nat.le_of_ble_eq_true rfl) (Nat.le_of_ble_eq_true rfl) ?_
            rw [h3]
            refine zgo hC0 51 1 rfl ?_
            refine And.intro (fun _ => ?_) (fun c => absurd rfl c)
            refine zgo hC0 54 2 rfl ?_
            refine zcallV hC0 (mX4_takesOne u q (i + 2) (nI r) B 100 h6 hq (by omega) (by decide) (by decide)) vX4_takesOne lk4_184 (by decide +kernel : decode cX4_readsBill 98 = .ok (.invokevirtual 184, 3)) rfl rfl rfl (Nat.le_of_ble_eq_true rfl) (Nat.le_of_ble_eq_true rfl) (Nat.le_of_ble_eq_true rfl) ?_
            rw [h4]
            refine zgo hC0 57 1 rfl ?_
            refine And.intro (fun _ => ?_) (fun c => absurd rfl c)
            refine zgo hC0 60 2 rfl ?_
            refine zcallV hC0 (mX4_takesOne u q (i + 2) (nI r) B 102 h6 hq (by omega) (by decide) (by decide)) vX4_takesOne lk4_184 (by decide +kernel : decode cX4_readsBill 113 = .ok (.invokevirtual 184, 3)) rfl rfl rfl (Nat.le_of_ble_eq_true rfl) (Nat.le_of_ble_eq_true rfl) (Nat.le_of_ble_eq_true rfl) ?_
            rw [h5]
            refine zgo hC0 63 1 rfl ?_
            refine And.intro (fun c => absurd rfl c) (fun _ => ?_)
            refine zgo hC0 64 2 rfl ?_
            exact zret_b rfl
