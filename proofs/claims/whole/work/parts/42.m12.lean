/-! RepealedLawsModel: a bill read; fault -/
theorem zgd_3 {g : Nat → Int32} {i : Nat} (h : zgd g i = 3) : zbt (nI 49) (nI 58) (g i) = true ∧ zbt (nI 48) (nI 54) (g (i + 1)) = true ∧ (decide (g (i + 2) = nI 97) || (decide (g (i + 2) = nI 100) || decide (g (i + 2) = nI 102))) = true := by
  rw [zgd] at h
  cases h1 : zbt (nI 49) (nI 58) (g i) with
  | false => rw [h1] at h; exact absurd (show (0 : Nat) = 3 from h) (by decide)
  | true =>
    rw [h1] at h
    cases h2 : zbt (nI 48) (nI 54) (g (i + 1)) with
    | false => rw [h2] at h; exact absurd (show (1 : Nat) = 3 from h) (by decide)
    | true =>
      rw [h2] at h
      cases h3 : decide (g (i + 2) = nI 97) || (decide (g (i + 2) = nI 100) || decide (g (i + 2) = nI 102)) with
      | false => rw [h3] at h; exact absurd h (by decide)
      | true => exact ⟨rfl, rfl, rfl⟩
set_option maxHeartbeats 2000000 in
set_option maxRecDepth 20000 in
theorem mX4_readsBill_t (u : CV) (q i r : Nat) (B : Nat → Int32) (h6 : u 6 0 = nI q) (hq : q ≤ 60) (hi : i < 900) (hr : r < 20) (hg : zgd (zSg (u 5) q) i = 3) : ZM yX4_readsBill cX4_readsBill 2 (some .boolean) 3 69 [.ref 0] (hM (zsp u (nI i) (nI r) B)) (some (.int (b2i true))) (hM (zsp u (nI (zpn (zSg (u 5) q) i)) (nI (r + 1)) (upd B r (zBv (zSg (u 5) q) i)))) := by
  refine zm_of 4 qX4_readsBill rfl rfl kX4_readsBill rfl (Nat.le_of_ble_eq_true rfl) (fun C hC0 => ?_)
  obtain ⟨h1, h2, h3⟩ := zgd_3 hg
  have q1 : i < q := zSg_in (by decide) (by decide) h1
  have q2 : i + 1 < q := zSg_in (by decide) (by decide) h2
  have g1 : zSg (u 5) q i = u 5 i := by rw [zSg, if_pos q1]
  have g2 : zSg (u 5) q (i + 1) = u 5 (i + 1) := by rw [zSg, if_pos q2]
  refine zgo hC0 0 3 rfl ?_
  refine zcallV hC0 (mX4_isHere u q i (nI r) B 49 57 h6 hq (by omega) (by decide) (by decide) (by decide)) vX4_isHere lk4_181 (by decide +kernel : decode cX4_readsBill 5 = .ok (.invokevirtual 181, 3)) rfl rfl rfl (Nat.le_of_ble_eq_true rfl) (Nat.le_of_ble_eq_true rfl) (Nat.le_of_ble_eq_true rfl) ?_
  show C 8 [some (.ref 0), none] [.int (b2i (zbt (nI 49) (nI 58) (zSg (u 5) q i)))] (hM (zsp u (nI i) (nI r) B))
  rw [h1]
  refine zgo hC0 4 1 rfl ?_
  refine And.intro (fun _ => ?_) (fun c => absurd c (by decide))
  refine zgo hC0 7 19 rfl ?_
  refine And.intro (vp_in_nI (N := 60) (by omega) (by decide)) ?_
  show C 44 [some (.ref 0), some (.int (nI 100 * (u 5 (nI i).toNatClampNeg - nI 48)))] [.int (nI 53), .int (nI 48), .ref 0] (hM (zsp u (nI i + nI 1) (nI r) B))
  rw [nI_add]
  refine zcallV hC0 (mX4_isHere u q (i + 1) (nI r) B 48 53 h6 hq (by omega) (by decide) (by decide) (by decide)) vX4_isHere lk4_181 (by decide +kernel : decode cX4_readsBill 44 = .ok (.invokevirtual 181, 3)) rfl rfl rfl (Nat.le_of_ble_eq_true rfl) (Nat.le_of_ble_eq_true rfl) (Nat.le_of_ble_eq_true rfl) ?_
  show C 47 [some (.ref 0), some (.int (nI 100 * (u 5 (nI i).toNatClampNeg - nI 48)))] [.int (b2i (zbt (nI 48) (nI 54) (zSg (u 5) q (i + 1))))] (hM (zsp u (nI (i + 1)) (nI r) B))
  rw [h2]
  refine zgo hC0 27 1 rfl ?_
  refine And.intro (fun _ => ?_) (fun c => absurd c (by decide))
  refine zgo hC0 30 20 rfl ?_
  refine And.intro (vp_in_nI (N := 60) (by omega) (by decide)) ?_
  show C 83 [some (.ref 0), some (.int (nI 100 * (u 5 (nI i).toNatClampNeg - nI 48) + nI 10 * (u 5 (nI (i + 1)).toNatClampNeg - nI 48)))] [.int (nI 97), .ref 0] (hM (zsp u (nI (i + 1) + nI 1) (nI r) B))
  rw [nI_add, nI_clamp (show i < 2 ^ 31 by omega), nI_clamp (show i + 1 < 2 ^ 31 by omega), ← g1, ← g2]
  have at121 : ∀ bill, bill = nI 100 * (zSg (u 5) q i - nI 48) + nI 10 * (zSg (u 5) q (i + 1) - nI 48) + zSt (zSg (u 5) q (i + 2)) → C 121 [some (.ref 0), some (.int bill)] [] (hM (zsp u (nI (i + 3)) (nI r) B)) := by
    rintro bill hb
    have hB : zBv (zSg (u 5) q) i = bill + zpk (decide (zSg (u 5) q (i + 3) = nI 33)) (nI 1000) (nI 0) := by rw [zBv, hb]
    have hP : zpn (zSg (u 5) q) i = i + 3 + bN (decide (zSg (u 5) q (i + 3) = nI 33)) := rfl
    rw [hB, hP] at hC0
    have e : (nI r).toNatClampNeg = r := nI_clamp (by omega)
    refine zgo hC0 66 7 rfl ?_
    refine zcallV hC0 (mX4_takesOne u q (i + 3) (nI r) B 33 h6 hq (by omega) (by decide) (by decide)) vX4_takesOne lk4_184 (by decide +kernel : decode cX4_readsBill 133 = .ok (.invokevirtual 184, 3)) rfl rfl rfl (Nat.le_of_ble_eq_true rfl) (Nat.le_of_ble_eq_true rfl) (Nat.le_of_ble_eq_true rfl) ?_
    cases h9 : decide (zSg (u 5) q (i + 3) = nI 33) with
    | true =>
      rw [h9] at hC0
      refine zgo hC0 74 1 rfl ?_
      refine And.intro (fun c => absurd c (by decide)) (fun _ => ?_)
      refine zgo hC0 75 2 rfl ?_
      refine zgo hC0 78 10 rfl ?_
      refine And.intro (vp_in_nI (N := 20) hr (by decide)) ⟨b2i_nar true, rfl, ?_⟩
      show hM (zsp u (nI (i + 3 + 1)) (nI r + nI 1) (upd B (nI r).toNatClampNeg (bill + nI 1000))) = _
      rw [nI_add, e]
      rfl
    | false =>
      rw [h9] at hC0
      refine zgo hC0 74 1 rfl ?_
      refine And.intro (fun _ => ?_) (fun c => absurd rfl c)
      refine zgo hC0 77 11 rfl ?_
      refine And.intro (vp_in_nI (N := 20) hr (by decide)) ⟨b2i_nar true, rfl, ?_⟩
      show hM (zsp u (nI (i + 3 + 0)) (nI r + nI 1) (upd B (nI r).toNatClampNeg (bill + nI 0))) = _
      rw [nI_add, e]
      rfl
  generalize hx : nI 100 * (zSg (u 5) q i - nI 48) + nI 10 * (zSg (u 5) q (i + 1) - nI 48) = x
  rw [hx] at at121
  cases h4 : decide (zSg (u 5) q (i + 2) = nI 97) with
  | true =>
    have z : zSt (zSg (u 5) q (i + 2)) = nI 1 := by rw [of_decide_eq_true h4]; decide
    rw [z] at at121
    refine zcallV hC0 (mX4_takesOne u q (i + 2) (nI r) B 97 h6 hq (by omega) (by decide) (by decide)) vX4_takesOne lk4_184 (by decide +kernel : decode cX4_readsBill 83 = .ok (.invokevirtual 184, 3)) rfl rfl rfl (Nat.le_of_ble_eq_true rfl) (Nat.le_of_ble_eq_true rfl) (Nat.le_of_ble_eq_true rfl) ?_
    rw [h4]
    refine zgo hC0 51 1 rfl ?_
    refine And.intro (fun c => absurd c (by decide)) (fun _ => ?_)
    refine zgo hC0 52 2 rfl ?_
    exact at121 _ rfl
  | false =>
    refine zcallV hC0 (mX4_takesOne u q (i + 2) (nI r) B 97 h6 hq (by omega) (by decide) (by decide)) vX4_takesOne lk4_184 (by decide +kernel : decode cX4_readsBill 83 = .ok (.invokevirtual 184, 3)) rfl rfl rfl (Nat.le_of_ble_eq_true rfl) (Nat.le_of_ble_eq_true rfl) (Nat.le_of_ble_eq_true rfl) ?_
    rw [h4]
    refine zgo hC0 51 1 rfl ?_
    refine And.intro (fun _ => ?_) (fun c => absurd rfl c)
    refine zgo hC0 54 2 rfl ?_
    cases h5 : decide (zSg (u 5) q (i + 2) = nI 100) with
    | true =>
      have z : zSt (zSg (u 5) q (i + 2)) = nI 2 := by rw [of_decide_eq_true h5]; decide
      rw [z] at at121
      refine zcallV hC0 (mX4_takesOne u q (i + 2) (nI r) B 100 h6 hq (by omega) (by decide) (by decide)) vX4_takesOne lk4_184 (by decide +kernel : decode cX4_readsBill 98 = .ok (.invokevirtual 184, 3)) rfl rfl rfl (Nat.le_of_ble_eq_true rfl) (Nat.le_of_ble_eq_true rfl) (Nat.le_of_ble_eq_true rfl) ?_
      rw [h5]
      refine zgo hC0 57 1 rfl ?_
      refine And.intro (fun c => absurd c (by decide)) (fun _ => ?_)
      refine zgo hC0 58 2 rfl ?_
      exact at121 _ rfl
    | false =>
      refine zcallV hC0 (mX4_takesOne u q (i + 2) (nI r) B 100 h6 hq (by omega) (by decide) (by decide)) vX4_takesOne lk4_184 (by decide +kernel : decode cX4_readsBill 98 = .ok (.invokevirtual 184, 3)) rfl rfl rfl (Nat.le_of_ble_eq_true rfl) (Nat.le_of_ble_eq_true rfl) (Nat.le_of_ble_eq_true rfl) ?_
      rw [h5]
      refine zgo hC0 57 1 rfl ?_
      refine And.intro (fun _ => ?_) (fun c => absurd rfl c)
      refine zgo hC0 60 2 rfl ?_
      rw [h4, h5, Bool.false_or, Bool.false_or] at h3
      have z : zSt (zSg (u 5) q (i + 2)) = nI 0 := by rw [of_decide_eq_true h3]; decide
      rw [z] at at121
      refine zcallV hC0 (mX4_takesOne u q (i + 2) (nI r) B 102 h6 hq (by omega) (by decide) (by decide)) vX4_takesOne lk4_184 (by decide +kernel : decode cX4_readsBill 113 = .ok (.invokevirtual 184, 3)) rfl rfl rfl (Nat.le_of_ble_eq_true rfl) (Nat.le_of_ble_eq_true rfl) (Nat.le_of_ble_eq_true rfl) ?_
      rw [h3]
      refine zgo hC0 63 1 rfl ?_
      refine And.intro (fun _ => ?_) (fun c => absurd c (by decide))
      exact at121 _ (zadd0 x).symm
/-- the text read on from a bill at i: the answer, the spot then, the bills then -/
def zFl (g : Nat → Int32) (q : Nat) : Nat → Nat → Nat → (Nat → Int32) → Int32 × Nat × Nat × (Nat → Int32)
  | 0, i, r, B => (nI i, i, r, B)
  | f + 1, i, r, B => if zgd g i = 3 then (if zpn g i < q then zFl g q f (zpn g i) (r + 1) (upd B r (zBv g i)) else (-(nI 6), zpn g i, r + 1, upd B r (zBv g i))) else (nI (i + zgd g i), i + zgd g i, r, B)
theorem zpn_ge (g : Nat → Int32) (i : Nat) : i + 3 ≤ zpn g i ∧ zpn g i ≤ i + 4 := by
  rw [zpn]
  cases decide (g (i + 3) = nI 33) <;> simp [bN]
set_option maxHeartbeats 2000000 in
set_option maxRecDepth 20000 in
theorem mX4_fault (u : CV) (q : Nat) (h6 : u 6 0 = nI q) (hq : q ≤ 60) : ZM yX4_fault cX4_fault 2 (some .int) 4 90 [.ref 0] (hM u) (some (.int (zFl (zSg (u 5) q) q 21 0 0 (u 8)).1)) (hM (zsp u (nI (zFl (zSg (u 5) q) q 21 0 0 (u 8)).2.1) (nI (zFl (zSg (u 5) q) q 21 0 0 (u 8)).2.2.1) (zFl (zSg (u 5) q) q 21 0 0 (u 8)).2.2.2)) := by
  refine zm_of 4 qX4_fault rfl rfl kX4_fault rfl (Nat.le_of_ble_eq_true rfl) (fun C hC0 => ?_)
  obtain ⟨Z, hZ⟩ : ∃ Z, Z = zFl (zSg (u 5) q) q 21 0 0 (u 8) := ⟨_, rfl⟩
  rw [← hZ] at hC0
  have key : ∀ (f i r : Nat) (B : Nat → Int32), q < i + 3 * f → (i < q ∨ i = 0) → 3 * r ≤ i → zFl (zSg (u 5) q) q f i r B = Z → C 12 [some (.ref 0), some (.int (nI 1))] [] (hM (zsp u (nI i) (nI r) B)) := by
    intro f
    induction f with
    | zero =>
      intro i r B hf hi
      exact absurd hf (by omega)
    | succ f ih =>
      intro i r B hf hi hr hz
      rw [zFl] at hz
      refine zgo hC0 8 2 rfl ?_
      refine And.intro (fun c => absurd c (by decide)) (fun _ => ?_)
      refine zgo hC0 10 1 rfl ?_
      by_cases hg : zgd (zSg (u 5) q) i = 3
      · have q1 : i < q := zSg_in (by decide) (by decide) (zgd_3 hg).1
        rw [if_pos hg] at hz
        have hp := zpn_ge (zSg (u 5) q) i
        refine zcallV hC0 (mX4_readsBill_t u q i r B h6 hq (by omega) (by omega) hg) vX4_readsBill lk4_190 (by decide +kernel : decode cX4_fault 17 = .ok (.invokevirtual 190, 3)) rfl rfl rfl (Nat.le_of_ble_eq_true rfl) (Nat.le_of_ble_eq_true rfl) (Nat.le_of_ble_eq_true rfl) ?_
        generalize hB : upd B r (zBv (zSg (u 5) q) i) = B2 at hz ⊢
        generalize hN : zpn (zSg (u 5) q) i = N at hz hp ⊢
        refine zgo hC0 12 1 rfl ?_
        refine And.intro (fun _ => ?_) (fun c => absurd c (by decide))
        refine zgo hC0 16 5 rfl ?_
        refine And.intro (fun (c : u 6 0 ≤ nI N) => ?_) (fun (c : ¬ u 6 0 ≤ nI N) => ?_)
        · rw [h6, nI_leI (by omega) (by omega)] at c
          rw [if_neg (by omega)] at hz
          refine zgo hC0 23 3 rfl ?_
          refine zgo hC0 8 2 rfl ?_
          refine And.intro (fun _ => ?_) (fun c => absurd rfl c)
          refine zgo hC0 26 2 rfl ?_
          rw [← hz]
          exact ⟨rfl, rfl, rfl⟩
        · rw [h6, nI_leI (by omega) (by omega)] at c
          rw [if_pos (by omega)] at hz
          refine zgo hC0 21 2 rfl ?_
          refine zgo hC0 24 2 rfl ?_
          exact ih N (r + 1) B2 (by omega) (Or.inl (by omega)) (by omega) hz
      · rw [if_neg hg] at hz
        refine zcallV hC0 (mX4_readsBill_f u q i r B h6 hq (by omega) (by omega) hg) vX4_readsBill lk4_190 (by decide +kernel : decode cX4_fault 17 = .ok (.invokevirtual 190, 3)) rfl rfl rfl (Nat.le_of_ble_eq_true rfl) (Nat.le_of_ble_eq_true rfl) (Nat.le_of_ble_eq_true rfl) ?_
        refine zgo hC0 12 1 rfl ?_
        refine And.intro (fun c => absurd rfl c) (fun _ => ?_)
        refine zgo hC0 13 3 rfl ?_
        rw [← hz]
        exact ⟨rfl, rfl, rfl⟩
  refine zgo hC0 0 8 rfl ?_
  exact key 21 0 0 (u 8) (by omega) (Or.inr rfl) (by omega) hZ.symm
