/-! RepealedLawsModel: why a bill fails, the best repeal, what passes -/
theorem zLK_m6 (v : CV) (l t s : Int32) : zLK v (-(nI 6)) l t s = false := by rw [zLK, zL_m6]; rfl
set_option maxHeartbeats 2000000 in
set_option maxRecDepth 20000 in
theorem mX4_reason (v u : CV) (l : Int32) (b : Nat) (s x : Int32) (n : Nat) (hb : b < 6) (hm : WM v n) (hl : WL v n) (hr : RM v (u 0)) (hx : zNm x n) : ZM yX4_reason cX4_reason 5 (some .int) 3 72 [.ref 0, .int l, .int (nI b), .int s, .int x] (hM u) (some (.int (zRA v l (nI b) s x n))) (hM u) := by
  refine zm_of 4 qX4_reason rfl rfl kX4_reason rfl (Nat.le_of_ble_eq_true rfl) (fun C hC0 => ?_)
  have hn := hm.2
  have r0 : u 0 0 = v 0 0 := hr.1 0 (by decide)
  have r1 : u 0 1 = v 0 1 := hr.1 1 (by decide)
  have seven : (zRA v l (nI b) s x n = zR7 v (nI b) s x) → C 118 [some (.ref 0), some (.int l), some (.int (nI b)), some (.int s), some (.int x)] [] (hM u) := by
    intro hq
    refine zgo hC0 66 4 rfl ?_
    refine zcallV hC0 (mX4_voters v u b s x n hb hm hl hr hx) vX4_voters lk4_83 (by decide +kernel : decode cX4_reason 123 = .ok (.invokevirtual 83, 3)) rfl rfl rfl (Nat.le_of_ble_eq_true rfl) (Nat.le_of_ble_eq_true rfl) (Nat.le_of_ble_eq_true rfl) ?_
    refine zcallS hC0 (mX4_bits (zVT v (nI b) s x) (hM u)) vX4_bits lk4_86 (by decide +kernel : decode cX4_reason 126 = .ok (.invokestatic 86, 3)) rfl rfl (Nat.le_of_ble_eq_true rfl) (Nat.le_of_ble_eq_true rfl) (Nat.le_of_ble_eq_true rfl) ?_
    show C 129 _ [.int (zbits (zVT v (nI b) s x) 5)] _
    rw [zbitsv]
    refine zgo hC0 72 5 rfl ?_
    refine And.intro z596 (And.intro (fun (c : u 0 0 ≤ zVC v (nI b) s x) => ?_) (fun (c : ¬ u 0 0 ≤ zVC v (nI b) s x) => ?_))
    · rw [r0] at c
      refine zgo hC0 79 2 rfl ?_
      exact zret_i (by rw [hq, zR7, if_pos c]; rfl)
    · rw [r0] at c
      refine zgo hC0 77 2 rfl ?_
      refine zgo hC0 80 1 rfl ?_
      exact zret_i (by rw [hq, zR7, if_neg c]; rfl)
  refine zgo hC0 0 5 rfl ?_
  refine zcallV hC0 (mX4_isThereAlike v u l (nI b) s x n hm hr) vX4_isThereAlike lk4_70 (by decide +kernel : decode cX4_reason 6 = .ok (.invokevirtual 70, 3)) rfl rfl rfl (Nat.le_of_ble_eq_true rfl) (Nat.le_of_ble_eq_true rfl) (Nat.le_of_ble_eq_true rfl) ?_
  refine zgo hC0 6 1 rfl ?_
  refine And.intro (fun c1 => ?_) (fun c1 => ?_)
  rotate_left
  · refine zgo hC0 7 2 rfl ?_
    exact zret_i (by rw [zRA, b2i_t c1]; rfl)
  have h1 := b2i_f c1
  rcases hx with rfl | ⟨j, hj, rfl⟩
  · refine zgo hC0 9 3 rfl ?_
    refine And.intro (fun _ => ?_) (fun c => absurd rfl c)
    refine zgo hC0 21 4 rfl ?_
    refine zcallV hC0 (mX4_isRemembered v u l (nI b) s n hm hr) vX4_isRemembered lk4_73 (by decide +kernel : decode cX4_reason 39 = .ok (.invokevirtual 73, 3)) rfl rfl rfl (Nat.le_of_ble_eq_true rfl) (Nat.le_of_ble_eq_true rfl) (Nat.le_of_ble_eq_true rfl) ?_
    refine zgo hC0 26 1 rfl ?_
    refine And.intro (fun c3 => ?_) (fun c3 => ?_)
    rotate_left
    · refine zgo hC0 27 2 rfl ?_
      exact zret_i (by rw [zRA, h1, zLK_m6, b2i_t c3]; rfl)
    have h3 := b2i_f c3
    refine zgo hC0 29 3 rfl ?_
    refine And.intro (fun _ => ?_) (fun c => absurd rfl c)
    refine zgo hC0 44 3 rfl ?_
    refine And.intro (fun c => absurd rfl c) (fun _ => ?_)
    refine zgo hC0 47 2 rfl ?_
    refine zcallV hC0 (mX4_isThereAsLong v u l n hm hr) vX4_isThereAsLong lk4_77 (by decide +kernel : decode cX4_reason 85 = .ok (.invokevirtual 77, 3)) rfl rfl rfl (Nat.le_of_ble_eq_true rfl) (Nat.le_of_ble_eq_true rfl) (Nat.le_of_ble_eq_true rfl) ?_
    refine zgo hC0 50 1 rfl ?_
    refine And.intro (fun c4 => ?_) (fun c4 => ?_)
    rotate_left
    · refine zgo hC0 51 2 rfl ?_
      exact zret_i (by rw [zRA, h1, zLK_m6, h3, zL_m6, b2i_t c4]; rfl)
    have h4 := b2i_f c4
    refine zgo hC0 53 3 rfl ?_
    refine And.intro (fun c => absurd rfl c) (fun _ => ?_)
    refine zgo hC0 56 2 rfl ?_
    refine zcallV hC0 (mX4_inForce v u (-(nI 6)) n hm hr) vX4_inForce lk4_80 (by decide +kernel : decode cX4_reason 103 = .ok (.invokevirtual 80, 3)) rfl rfl rfl (Nat.le_of_ble_eq_true rfl) (Nat.le_of_ble_eq_true rfl) (Nat.le_of_ble_eq_true rfl) ?_
    have e : iFT v (-(nI 6)) = iF v := by funext k; simp [iFT]
    rw [e]
    refine zgo hC0 59 5 rfl ?_
    refine And.intro z596 (And.intro (fun (c6 : nI (cnt (iF v) n) < u 0 1) => ?_) (fun (c6 : ¬ nI (cnt (iF v) n) < u 0 1) => ?_))
    · rw [r1] at c6
      refine seven ?_
      rw [zRA, h1, zLK_m6, h3, zL_m6, h4]
      exact if_neg (Int32.not_le.mpr c6)
    · rw [r1] at c6
      refine zgo hC0 64 2 rfl ?_
      refine zret_i ?_
      rw [zRA, h1, zLK_m6, h3, zL_m6, h4]
      exact if_pos (Int32.not_lt.mp c6)
  · have hne := nI_ne_m6 (j := j) (by omega)
    refine zgo hC0 9 3 rfl ?_
    refine And.intro (fun c => absurd c hne) (fun _ => ?_)
    refine zgo hC0 12 5 rfl ?_
    refine zcallV hC0 (mX4_isLike v u j l (nI b) s (by omega) hr) vX4_isLike lk4_66 (by decide +kernel : decode cX4_reason 27 = .ok (.invokevirtual 66, 3)) rfl rfl rfl (Nat.le_of_ble_eq_true rfl) (Nat.le_of_ble_eq_true rfl) (Nat.le_of_ble_eq_true rfl) ?_
    refine zgo hC0 18 1 rfl ?_
    refine And.intro (fun c2 => ?_) (fun c2 => ?_)
    rotate_left
    · refine zgo hC0 19 2 rfl ?_
      exact zret_i (by rw [zRA, h1, zLK_at hm hj, b2i_t c2]; rfl)
    have h2 : zLK v (nI j) l (nI b) s = false := (zLK_at hm hj).trans (b2i_f c2)
    refine zgo hC0 21 4 rfl ?_
    refine zcallV hC0 (mX4_isRemembered v u l (nI b) s n hm hr) vX4_isRemembered lk4_73 (by decide +kernel : decode cX4_reason 39 = .ok (.invokevirtual 73, 3)) rfl rfl rfl (Nat.le_of_ble_eq_true rfl) (Nat.le_of_ble_eq_true rfl) (Nat.le_of_ble_eq_true rfl) ?_
    refine zgo hC0 26 1 rfl ?_
    refine And.intro (fun c3 => ?_) (fun c3 => ?_)
    rotate_left
    · refine zgo hC0 27 2 rfl ?_
      exact zret_i (by rw [zRA, h1, h2, b2i_t c3]; rfl)
    have h3 := b2i_f c3
    have h4 := zL_at hm hj
    have at74 : (zF v (nI j) && decide (v 2 (nI j).toNatClampNeg = l)) = false → C 74 [some (.ref 0), some (.int l), some (.int (nI b)), some (.int s), some (.int (nI j))] [] (hM u) := by
      intro hq
      refine zgo hC0 42 2 rfl ?_
      exact zret_i (by rw [zRA, h1, h2, h3, h4, hq]; rfl)
    refine zgo hC0 29 3 rfl ?_
    refine And.intro (fun c => absurd c hne) (fun _ => ?_)
    refine zgo hC0 32 2 rfl ?_
    refine zcallV hC0 (mX4_isInForce v u j (by omega) hr) vX4_isInForce lk4_44 (by decide +kernel : decode cX4_reason 57 = .ok (.invokevirtual 44, 3)) rfl rfl rfl (Nat.le_of_ble_eq_true rfl) (Nat.le_of_ble_eq_true rfl) (Nat.le_of_ble_eq_true rfl) ?_
    refine zgo hC0 35 1 rfl ?_
    refine And.intro (fun c5 => at74 (zand_f1 ((zF_at hm hj).trans (b2i_f c5)))) (fun c5 => ?_)
    refine zgo hC0 36 3 rfl ?_
    refine zcallV hC0 (mX4_get v u j 0 (by omega) (by decide) hr) vX4_get lk4_40 (by decide +kernel : decode cX4_reason 67 = .ok (.invokevirtual 40, 3)) rfl rfl rfl (Nat.le_of_ble_eq_true rfl) (Nat.le_of_ble_eq_true rfl) (Nat.le_of_ble_eq_true rfl) ?_
    refine zgo hC0 40 2 rfl ?_
    refine And.intro (fun (c6 : v 2 j = l) => ?_) (fun (c6 : ¬ v 2 j = l) => at74 (zand_f2 (by rw [zcl hn hj]; exact decide_eq_false c6)))
    refine zgo hC0 44 3 rfl ?_
    refine And.intro (fun _ => ?_) (fun c => absurd c hne)
    refine zgo hC0 53 3 rfl ?_
    refine And.intro (fun _ => ?_) (fun c => absurd c hne)
    refine seven ?_
    have h5 : (zF v (nI j) && decide (v 2 (nI j).toNatClampNeg = l)) = true := zand_t ((zF_at hm hj).trans (b2i_t c5)) (by rw [zcl hn hj]; exact decide_eq_true c6)
    rw [zRA, h1, h2, h3, h4, h5]
theorem zbr2_inv (v : CV) (l t s : Int32) : ∀ i, (zbr2 v l t s i).1 = -(nI 6) ∨ ∃ j, j < i ∧ (zbr2 v l t s i).1 = nI j
  | 0 => Or.inl rfl
  | i + 1 => by
    rw [zbr2]
    by_cases c : pHL v l i = true ∧ ¬ zVC v t s (nI i) ≤ (zbr2 v l t s i).2
    · rw [if_pos c]
      exact Or.inr ⟨i, Nat.lt_succ_self i, rfl⟩
    · rw [if_neg c]
      rcases zbr2_inv v l t s i with h | ⟨j, h1, h2⟩
      · exact Or.inl h
      · exact Or.inr ⟨j, Nat.lt_succ_of_lt h1, h2⟩
theorem zBR_nm (v : CV) (l t s : Int32) (n : Nat) : zNm (zBR v l t s n) n := zbr2_inv v l t s n
set_option maxHeartbeats 2000000 in
set_option maxRecDepth 20000 in
theorem mX4_best (v u : CV) (l : Int32) (b : Nat) (s : Int32) (n : Nat) (hb : b < 6) (hm : WM v n) (hl : WL v n) (hr : RM v (u 0)) : ZM yX4_best cX4_best 8 (some .int) 3 71 [.ref 0, .int l, .int (nI b), .int s] (hM u) (some (.int (zBR v l (nI b) s n))) (hM u) := by
  refine zm_of 4 qX4_best rfl rfl kX4_best rfl (Nat.le_of_ble_eq_true rfl) (fun C hC0 => ?_)
  have hn := hm.2
  refine zgo hC0 0 6 rfl ?_
  refine zloop n (fun i => ∀ (a c y : Int32) (o : Option Value), a = (zbr2 v l (nI b) s i).1 → c = (zbr2 v l (nI b) s i).2 → y = nI i → C 10 [some (.ref 0), some (.int l), some (.int (nI b)), some (.int s), some (.int a), some (.int c), some (.int y), o] [] (hM u)) ?_ ?_ _ _ _ _ rfl rfl rfl
  · rintro a c y o rfl rfl rfl
    refine zgo hC0 6 6 rfl ?_
    refine And.intro z596 (And.intro (fun _ => ?_) (fun (c : ¬ u 0 4 ≤ nI n) => absurd (zmge_rf hm hr) c))
    refine zgo hC0 45 2 rfl ?_
    exact zret_i rfl
  · rintro i hi ih a c y o rfl rfl rfl
    have no : ∀ o : Option Value, zbr2 v l (nI b) s (i + 1) = zbr2 v l (nI b) s i → C 86 [some (.ref 0), some (.int l), some (.int (nI b)), some (.int s), some (.int (zbr2 v l (nI b) s i).1), some (.int (zbr2 v l (nI b) s i).2), some (.int (nI i)), o] [] (hM u) := by
      intro o hq
      refine zgo hC0 43 2 rfl ?_
      exact ih _ _ _ _ (by rw [hq]) (by rw [hq]) (nI_add i 1)
    refine zgo hC0 6 6 rfl ?_
    refine And.intro z596 (And.intro (fun (c : u 0 4 ≤ nI i) => absurd c (zmge_no hm hr hi)) (fun _ => ?_))
    refine zgo hC0 12 2 rfl ?_
    refine zcallV hC0 (mX4_isInForce v u i (by omega) hr) vX4_isInForce lk4_44 (by decide +kernel : decode cX4_best 24 = .ok (.invokevirtual 44, 3)) rfl rfl rfl (Nat.le_of_ble_eq_true rfl) (Nat.le_of_ble_eq_true rfl) (Nat.le_of_ble_eq_true rfl) ?_
    refine zgo hC0 15 1 rfl ?_
    refine And.intro (fun c1 => no _ ?_) (fun c1 => ?_)
    · rw [zbr2, if_neg]
      rintro ⟨q, -⟩
      rw [pHL, b2i_f c1] at q
      cases q
    refine zgo hC0 16 3 rfl ?_
    refine zcallV hC0 (mX4_get v u i 0 (by omega) (by decide) hr) vX4_get lk4_40 (by decide +kernel : decode cX4_best 34 = .ok (.invokevirtual 40, 3)) rfl rfl rfl (Nat.le_of_ble_eq_true rfl) (Nat.le_of_ble_eq_true rfl) (Nat.le_of_ble_eq_true rfl) ?_
    refine zgo hC0 20 2 rfl ?_
    refine And.intro (fun (c2 : ¬ v 2 i = l) => no _ ?_) (fun (c2 : v 2 i = l) => ?_)
    · rw [zbr2, if_neg]
      rintro ⟨q, -⟩
      rw [pHL, decide_eq_false c2, Bool.and_false] at q
      cases q
    have hp : pHL v l i = true := zand_t (b2i_t c1) (decide_eq_true c2)
    refine zgo hC0 22 4 rfl ?_
    refine zcallV hC0 (mX4_voters v u b s (nI i) n hb hm hl hr (Or.inr ⟨i, hi, rfl⟩)) vX4_voters lk4_83 (by decide +kernel : decode cX4_best 46 = .ok (.invokevirtual 83, 3)) rfl rfl rfl (Nat.le_of_ble_eq_true rfl) (Nat.le_of_ble_eq_true rfl) (Nat.le_of_ble_eq_true rfl) ?_
    refine zcallS hC0 (mX4_bits (zVT v (nI b) s (nI i)) (hM u)) vX4_bits lk4_86 (by decide +kernel : decode cX4_best 49 = .ok (.invokestatic 86, 3)) rfl rfl (Nat.le_of_ble_eq_true rfl) (Nat.le_of_ble_eq_true rfl) (Nat.le_of_ble_eq_true rfl) ?_
    show C 52 _ [.int (zbits (zVT v (nI b) s (nI i)) 5)] _
    rw [zbitsv]
    refine zgo hC0 28 4 rfl ?_
    refine And.intro (fun (c3 : zVC v (nI b) s (nI i) ≤ (zbr2 v l (nI b) s i).2) => ?_) (fun (c3 : ¬ zVC v (nI b) s (nI i) ≤ (zbr2 v l (nI b) s i).2) => ?_)
    · refine zgo hC0 34 5 rfl ?_
      refine And.intro (fun _ => ?_) (fun q => absurd c3 q)
      refine zgo hC0 41 2 rfl ?_
      refine no _ ?_
      rw [zbr2, if_neg]
      rintro ⟨-, q⟩
      exact q c3
    · have e2 : zbr2 v l (nI b) s (i + 1) = (nI i, zVC v (nI b) s (nI i)) := by rw [zbr2, if_pos ⟨hp, c3⟩]
      refine zgo hC0 32 2 rfl ?_
      refine zgo hC0 35 4 rfl ?_
      refine And.intro (fun q => absurd q c3) (fun _ => ?_)
      refine zgo hC0 39 2 rfl ?_
      refine zgo hC0 42 3 rfl ?_
      exact ih _ _ _ _ (by rw [e2]) (by rw [e2]) (nI_add i 1)
set_option maxHeartbeats 2000000 in
set_option maxRecDepth 20000 in
theorem mX4_wouldPass (v u : CV) (l : Int32) (b : Nat) (s : Int32) (n : Nat) (hb : b < 6) (hm : WM v n) (hl : WL v n) (hr : RM v (u 0)) : ZM yX4_wouldPass cX4_wouldPass 4 (some .boolean) 4 98 [.ref 0, .int l, .int (nI b), .int s] (hM u) (some (.int (b2i (decide (zRA v l (nI b) s (zBR v l (nI b) s n) n = nI 0))))) (hM u) := by
  refine zm_of 4 qX4_wouldPass rfl rfl kX4_wouldPass rfl (Nat.le_of_ble_eq_true rfl) (fun C hC0 => ?_)
  refine zgo hC0 0 8 rfl ?_
  refine zcallV hC0 (mX4_best v u l b s n hb hm hl hr) vX4_best lk4_162 (by decide +kernel : decode cX4_wouldPass 8 = .ok (.invokevirtual 162, 3)) rfl rfl rfl (Nat.le_of_ble_eq_true rfl) (Nat.le_of_ble_eq_true rfl) (Nat.le_of_ble_eq_true rfl) ?_
  refine zcallV hC0 (mX4_reason v u l b s (zBR v l (nI b) s n) n hb hm hl hr (zBR_nm v l (nI b) s n)) vX4_reason lk4_159 (by decide +kernel : decode cX4_wouldPass 11 = .ok (.invokevirtual 159, 3)) rfl rfl rfl (Nat.le_of_ble_eq_true rfl) (Nat.le_of_ble_eq_true rfl) (Nat.le_of_ble_eq_true rfl) ?_
  refine zgo hC0 10 1 rfl ?_
  refine And.intro (fun (c : ¬ zRA v l (nI b) s (zBR v l (nI b) s n) n = nI 0) => ?_) (fun (c : zRA v l (nI b) s (zBR v l (nI b) s n) n = nI 0) => ?_)
  · refine zgo hC0 13 2 rfl ?_
    exact zret_b (zb0 (decide_eq_false c))
  · refine zgo hC0 11 2 rfl ?_
    refine zgo hC0 14 1 rfl ?_
    exact zret_b (zb1 (decide_eq_true c))
/-! the relation, behind a write -/
theorem upd_at {f : Nat → Int32} {k : Nat} {x : Int32} : upd f k x k = x := by simp [upd]
theorem upd_ne {f : Nat → Int32} {k j : Nat} {x : Int32} (h : ¬ j = k) : upd f k x j = f j := by simp [upd, h]
theorem RM_made {v : CV} {a : Nat → Int32} {x : Int32} (hr : RM v a) : RM (vup v 9 (upd (v 9) 0 x)) (upd a 4 x) := by
  obtain ⟨h1, h2, h3, h4, h5, h6⟩ := hr
  refine ⟨fun i hi => ?_, ?_, ?_, ?_, fun k hk => ?_, fun j w hj hw => ?_⟩
  · rw [upd_ne (by omega)]; exact h1 i hi
  · rw [upd_ne (by omega)]; exact h2
  · rw [upd_at]; rfl
  · rw [upd_ne (by omega)]; exact h4
  · rw [upd_ne (by omega)]; exact h5 k hk
  · rw [upd_ne (by omega), h6 j w hj hw]
    match w, hw with
    | 0, _ => rfl
    | 1, _ => rfl
    | 2, _ => rfl
    | 3, _ => rfl
    | 4, _ => rfl
    | 5, _ => rfl
    | 6, _ => rfl
    | w + 7, h => exact absurd h (by omega)
theorem RM_sess {v : CV} {a : Nat → Int32} {x : Int32} (hr : RM v a) : RM (vup v 10 (upd (v 10) 0 x)) (upd a 3 x) := by
  obtain ⟨h1, h2, h3, h4, h5, h6⟩ := hr
  refine ⟨fun i hi => ?_, ?_, ?_, ?_, fun k hk => ?_, fun j w hj hw => ?_⟩
  · rw [upd_ne (by omega)]; exact h1 i hi
  · rw [upd_at]; rfl
  · rw [upd_ne (by omega)]; exact h3
  · rw [upd_ne (by omega)]; exact h4
  · rw [upd_ne (by omega)]; exact h5 k hk
  · rw [upd_ne (by omega), h6 j w hj hw]
    match w, hw with
    | 0, _ => rfl
    | 1, _ => rfl
    | 2, _ => rfl
    | 3, _ => rfl
    | 4, _ => rfl
    | 5, _ => rfl
    | 6, _ => rfl
    | w + 7, h => exact absurd h (by omega)
theorem RM_fail {v : CV} {a : Nat → Int32} {x : Int32} (hr : RM v a) : RM (vup v 11 (upd (v 11) 0 x)) (upd a 5 x) := by
  obtain ⟨h1, h2, h3, h4, h5, h6⟩ := hr
  refine ⟨fun i hi => ?_, ?_, ?_, ?_, fun k hk => ?_, fun j w hj hw => ?_⟩
  · rw [upd_ne (by omega)]; exact h1 i hi
  · rw [upd_ne (by omega)]; exact h2
  · rw [upd_ne (by omega)]; exact h3
  · rw [upd_at]; rfl
  · rw [upd_ne (by omega)]; exact h5 k hk
  · rw [upd_ne (by omega), h6 j w hj hw]
    match w, hw with
    | 0, _ => rfl
    | 1, _ => rfl
    | 2, _ => rfl
    | 3, _ => rfl
    | 4, _ => rfl
    | 5, _ => rfl
    | 6, _ => rfl
    | w + 7, h => exact absurd h (by omega)
theorem RM_set {v : CV} {a : Nat → Int32} {j : Nat} {x : Int32} (hj : j < 3) (hr : RM v a) : RM (vup v 0 (upd (v 0) j x)) (upd a j x) := by
  obtain ⟨h1, h2, h3, h4, h5, h6⟩ := hr
  refine ⟨fun i hi => ?_, ?_, ?_, ?_, fun k hk => ?_, fun j w hj hw => ?_⟩
  · show upd a j x i = upd (v 0) j x i
    unfold upd
    rw [h1 i hi]
  · rw [upd_ne (by omega)]; exact h2
  · rw [upd_ne (by omega)]; exact h3
  · rw [upd_ne (by omega)]; exact h4
  · rw [upd_ne (by omega)]; exact h5 k hk
  · rw [upd_ne (by omega), h6 j w hj hw]
    match w, hw with
    | 0, _ => rfl
    | 1, _ => rfl
    | 2, _ => rfl
    | 3, _ => rfl
    | 4, _ => rfl
    | 5, _ => rfl
    | 6, _ => rfl
    | w + 7, h => exact absurd h (by omega)
theorem RM_wi {v : CV} {a : Nat → Int32} {k : Nat} {x : Int32} (hk : k < 30) (hr : RM v a) : RM (vup v 1 (upd (v 1) k x)) (upd a (6 + k) x) := by
  obtain ⟨h1, h2, h3, h4, h5, h6⟩ := hr
  refine ⟨fun i hi => ?_, ?_, ?_, ?_, fun i hi => ?_, fun j w hj hw => ?_⟩
  · rw [upd_ne (by omega)]; exact h1 i hi
  · rw [upd_ne (by omega)]; exact h2
  · rw [upd_ne (by omega)]; exact h3
  · rw [upd_ne (by omega)]; exact h4
  · show upd a (6 + k) x (6 + i) = upd (v 1) k x i
    by_cases e : i = k
    · subst e; rw [upd_at, upd_at]
    · rw [upd_ne (by omega), upd_ne e]; exact h5 i hi
  · rw [upd_ne (by omega), h6 j w hj hw]
    match w, hw with
    | 0, _ => rfl
    | 1, _ => rfl
    | 2, _ => rfl
    | 3, _ => rfl
    | 4, _ => rfl
    | 5, _ => rfl
    | 6, _ => rfl
    | w + 7, h => exact absurd h (by omega)
theorem vup_at (v : CV) (f : Nat) (g : Nat → Int32) : vup v f g f = g := by
  unfold vup
  rw [Nat.beq_refl]
theorem vup_ne {v : CV} {f k : Nat} {g : Nat → Int32} (h : ¬ k = f) : vup v f g k = v k := by
  unfold vup
  rw [show Nat.beq k f = false from Bool.eq_false_iff.mpr (fun q => h (Nat.eq_of_beq_eq_true q))]
theorem RM_lay {v : CV} {a : Nat → Int32} {j w : Nat} {x : Int32} (hj : j < 80) (hw : w < 7) (hr : RM v a) : RM (vup v (2 + w) (upd (v (2 + w)) j x)) (upd a (36 + 7 * j + w) x) := by
  obtain ⟨h1, h2, h3, h4, h5, h6⟩ := hr
  refine ⟨fun i hi => ?_, ?_, ?_, ?_, fun i hi => ?_, fun i y hi hy => ?_⟩
  · rw [upd_ne (by omega), vup_ne (by omega)]; exact h1 i hi
  · rw [upd_ne (by omega), vup_ne (by omega)]; exact h2
  · rw [upd_ne (by omega), vup_ne (by omega)]; exact h3
  · rw [upd_ne (by omega), vup_ne (by omega)]; exact h4
  · rw [upd_ne (by omega), vup_ne (by omega)]; exact h5 i hi
  · by_cases e : y = w
    · subst e
      rw [vup_at]
      by_cases e2 : i = j
      · subst e2; rw [upd_at, upd_at]
      · rw [upd_ne (by omega), upd_ne e2]; exact h6 i y hi hy
    · rw [upd_ne (by omega), vup_ne (by omega)]; exact h6 i y hi hy
