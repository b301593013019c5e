/-! both sides, call by call -/
theorem ZXh (v : CV) (hv : Nat → CV) (o k : Nat) (sv : Nat → CV) (fl ps : Nat → Int32) (q : Nat) : ZX.h (v, hv, o, k, sv, fl, ps, q) = hX v hv (nI o) (nI k) sv fl ps (nI q) := rfl
theorem ZXhr (v : CV) (hv : Nat → CV) (o k : Nat) (sv : Nat → CV) (fl ps : Nat → Int32) (q : Nat) (w : CV) : ZX.h (ZX.rem (v, hv, o, k, sv, fl, ps, q) w) = hX w (hup hv ((o + k) % 6) v) (nI (if k < 6 then o else (o + 1) % 6)) (nI (if k < 6 then k + 1 else 6)) sv fl ps (nI q) := rfl
set_option maxHeartbeats 1000000 in
theorem zz_set {S : Nat} {v : CV} {hv : Nat → CV} {o k : Nat} {sv : Nat → CV} {fl ps : Nat → Int32} {q : Nat} {u : CV} (h : ZRl S (v, hv, o, k, sv, fl, ps, q) u) (hS : S + 200 < 2 ^ 31) (a b : Int32) : ∃ (r : Int32) (x2 : ZX) (u2 : CV), ZRl (S + 20) x2 u2 ∧ ZM yX3_set cX3_set 4 (some .int) 3 90 [.ref 0, .int a, .int b] (ZX.h (v, hv, o, k, sv, fl, ps, q)) (some (.int r)) x2.h ∧ ZM yX4_set cX4_set 4 (some .int) 2 46 [.ref 0, .int a, .int b] (hM u) (some (.int r)) (hM u2) := by
  obtain ⟨⟨⟨n, s, (hm : WM v n), (hl : WL v n), (hs : v 10 0 = nI s), hsS⟩, (hr : RM v (u 0))⟩, ⟨(ho : o < 6), (hk : k ≤ 6), (h2 : u 2 0 = nI k), hh⟩, (hsl : ∀ j, j < 2 → (fl j = nI 0 ∧ u 4 j = nI 0) ∨ (fl j = nI 1 ∧ u 4 j = nI 1 ∧ GS S (sv j) ∧ RM (sv j) (fun i => u 3 (596 * j + i)))), (hw : WP ps (nI q) q), (h6 : u 6 0 = nI q), (h5 : ∀ j, j < q → u 5 j = ps j)⟩ := id h
  have hn6 : ¬ v 10 0 = -(nI 6) := by rw [hs]; exact nI_nn (by omega)
  cases hz : zsok a b with
  | false => exact ⟨_, _, _, h.up (by omega), mX3_set_f v hv (nI o) (nI k) sv fl ps (nI q) a b hz, mX4_set_f u a b hz⟩
  | true =>
    rcases zcase a 3 (by decide) with ⟨j, hj, rfl⟩ | hw2
    · refine ⟨v 0 j, ZX.rem (v, hv, o, k, sv, fl, ps, q) (vup v 0 (upd (v 0) j b)), vup (zcc u k) 0 (upd (u 0) j b), ?_, ?_, ?_⟩
      · have g1 : GS S (vup v 0 (upd (v 0) j b)) := ⟨n, s, hm, hl, hs, hsS⟩
        have g2 : RM (vup v 0 (upd (v 0) j b)) (upd (u 0) j b) := RM_set hj hr
        exact (ZRl_rem h g1 g2).up (by omega)
      · rw [ZXh, ZXhr]
        exact mX3_set_t v hv o k sv fl ps (nI q) b j hj ho hk hz
      · exact mX4_set_t v u k j b hk h2 hr hj hz
    · rw [zsok, zix_out hw2] at hz
      cases hz
set_option maxHeartbeats 1000000 in
theorem zz_wish {S : Nat} {v : CV} {hv : Nat → CV} {o k : Nat} {sv : Nat → CV} {fl ps : Nat → Int32} {q : Nat} {u : CV} (h : ZRl S (v, hv, o, k, sv, fl, ps, q) u) (hS : S + 200 < 2 ^ 31) (a b w : Int32) : ∃ (r : Int32) (x2 : ZX) (u2 : CV), ZRl (S + 20) x2 u2 ∧ ZM yX3_wish cX3_wish 5 (some .int) 3 90 [.ref 0, .int a, .int b, .int w] (ZX.h (v, hv, o, k, sv, fl, ps, q)) (some (.int r)) x2.h ∧ ZM yX4_wish cX4_wish 5 (some .int) 2 45 [.ref 0, .int a, .int b, .int w] (hM u) (some (.int r)) (hM u2) := by
  obtain ⟨⟨⟨n, s, (hm : WM v n), (hl : WL v n), (hs : v 10 0 = nI s), hsS⟩, (hr : RM v (u 0))⟩, ⟨(ho : o < 6), (hk : k ≤ 6), (h2 : u 2 0 = nI k), hh⟩, (hsl : ∀ j, j < 2 → (fl j = nI 0 ∧ u 4 j = nI 0) ∨ (fl j = nI 1 ∧ u 4 j = nI 1 ∧ GS S (sv j) ∧ RM (sv j) (fun i => u 3 (596 * j + i)))), (hw : WP ps (nI q) q), (h6 : u 6 0 = nI q), (h5 : ∀ j, j < q → u 5 j = ps j)⟩ := id h
  have hn6 : ¬ v 10 0 = -(nI 6) := by rw [hs]; exact nI_nn (by omega)
  cases hz : zWs1 a b with
  | false => exact ⟨_, _, _, h.up (by omega), mX3_wish_a v hv (nI o) (nI k) sv fl ps (nI q) a b w hz, mX4_wish_a u a b w hz⟩
  | true =>
    cases hz2 : zWs2 w with
    | false => exact ⟨_, _, _, h.up (by omega), mX3_wish_b v hv (nI o) (nI k) sv fl ps (nI q) a b w hz hz2, mX4_wish_b u a b w hz hz2⟩
    | true =>
      rw [zWs1] at hz
      have hz := Bool.and_eq_true_iff.mp hz
      obtain ⟨i, -, hi, rfl⟩ := zbt_ex (by decide) hz.1
      obtain ⟨j, -, hj, rfl⟩ := zbt_ex (by decide) hz.2
      refine ⟨zWo v (nI i) (nI j), ZX.rem (v, hv, o, k, sv, fl, ps, q) (vup v 1 (upd (v 1) (6 * i + j) w)), vup (zcc u k) 0 (upd (u 0) (6 + (6 * i + j)) w), ?_, ?_, ?_⟩
      · have g1 : GS S (vup v 1 (upd (v 1) (6 * i + j) w)) := ⟨n, s, hm, hl, hs, hsS⟩
        have g2 : RM (vup v 1 (upd (v 1) (6 * i + j) w)) (upd (u 0) (6 + (6 * i + j)) w) := RM_wi (show 6 * i + j < 30 by omega) hr
        exact (ZRl_rem h g1 g2).up (by omega)
      · rw [ZXh, ZXhr]
        exact mX3_wish_t v hv o k sv fl ps (nI q) w i j hi hj ho hk hz2
      · exact mX4_wish_t v u k i j w hi hj hk h2 hr hz2
set_option maxHeartbeats 1000000 in
theorem zz_propose {S : Nat} {v : CV} {hv : Nat → CV} {o k : Nat} {sv : Nat → CV} {fl ps : Nat → Int32} {q : Nat} {u : CV} (h : ZRl S (v, hv, o, k, sv, fl, ps, q) u) (hS : S + 200 < 2 ^ 31) (a b c d : Int32) : ∃ (r : Int32) (x2 : ZX) (u2 : CV), ZRl (S + 20) x2 u2 ∧ ZM yX3_propose cX3_propose 6 (some .int) 5 123 [.ref 0, .int a, .int b, .int c, .int d] (ZX.h (v, hv, o, k, sv, fl, ps, q)) (some (.int r)) x2.h ∧ ZM yX4_propose cX4_propose 6 (some .int) 5 121 [.ref 0, .int a, .int b, .int c, .int d] (hM u) (some (.int r)) (hM u2) := by
  obtain ⟨⟨⟨n, s, (hm : WM v n), (hl : WL v n), (hs : v 10 0 = nI s), hsS⟩, (hr : RM v (u 0))⟩, ⟨(ho : o < 6), (hk : k ≤ 6), (h2 : u 2 0 = nI k), hh⟩, (hsl : ∀ j, j < 2 → (fl j = nI 0 ∧ u 4 j = nI 0) ∨ (fl j = nI 1 ∧ u 4 j = nI 1 ∧ GS S (sv j) ∧ RM (sv j) (fun i => u 3 (596 * j + i)))), (hw : WP ps (nI q) q), (h6 : u 6 0 = nI q), (h5 : ∀ j, j < q → u 5 j = ps j)⟩ := id h
  have hn6 : ¬ v 10 0 = -(nI 6) := by rw [hs]; exact nI_nn (by omega)
  by_cases hz : zWhy v a b c d n = nI 0
  · obtain ⟨va, vb, vc, vd⟩ := zEB_0 hm (zWhy_e hz)
    have hn := zWhy_n hm hz
    refine ⟨nI n, ZX.rem (v, hv, o, k, sv, fl, ps, q) (zEN v a b c d n), vup (zcc u k) 0 (zpx (u 0) n a b c (v 10 0) d), ?_, ?_, ?_⟩
    · have g1 : GS S (zEN v a b c d n) := ⟨n + 1, s, WM_EN hn, WL_EN hn hl hn6 va vb vc, (zEN_10 _ _ _ _ _ _).trans hs, hsS⟩
      have g2 : RM (zEN v a b c d n) (zpx (u 0) n a b c (v 10 0) d) := RM_px hr hm hn a b c vd
      exact (ZRl_rem h g1 g2).up (by omega)
    · rw [ZXh, ZXhr]
      exact mX3_propose_t v hv o k sv fl ps (nI q) a b c d n hm ho hk hz
    · exact mX4_propose_t v u k a b c d n hm hl hr hk h2 hz
  · exact ⟨_, _, _, h.up (by omega), mX3_propose_f v hv (nI o) (nI k) sv fl ps (nI q) a b c d n hm hz, mX4_propose_f v u a b c d n hm hl hr hz⟩
set_option maxHeartbeats 1000000 in
theorem zz_repeal {S : Nat} {v : CV} {hv : Nat → CV} {o k : Nat} {sv : Nat → CV} {fl ps : Nat → Int32} {q : Nat} {u : CV} (h : ZRl S (v, hv, o, k, sv, fl, ps, q) u) (hS : S + 200 < 2 ^ 31) (a : Int32) : ∃ (r : Int32) (x2 : ZX) (u2 : CV), ZRl (S + 20) x2 u2 ∧ ZM yX3_repeal cX3_repeal 2 (some .int) 3 90 [.ref 0, .int a] (ZX.h (v, hv, o, k, sv, fl, ps, q)) (some (.int r)) x2.h ∧ ZM yX4_repeal cX4_repeal 2 (some .int) 2 46 [.ref 0, .int a] (hM u) (some (.int r)) (hM u2) := by
  obtain ⟨⟨⟨n, s, (hm : WM v n), (hl : WL v n), (hs : v 10 0 = nI s), hsS⟩, (hr : RM v (u 0))⟩, ⟨(ho : o < 6), (hk : k ≤ 6), (h2 : u 2 0 = nI k), hh⟩, (hsl : ∀ j, j < 2 → (fl j = nI 0 ∧ u 4 j = nI 0) ∨ (fl j = nI 1 ∧ u 4 j = nI 1 ∧ GS S (sv j) ∧ RM (sv j) (fun i => u 3 (596 * j + i)))), (hw : WP ps (nI q) q), (h6 : u 6 0 = nI q), (h5 : ∀ j, j < q → u 5 j = ps j)⟩ := id h
  have hn6 : ¬ v 10 0 = -(nI 6) := by rw [hs]; exact nI_nn (by omega)
  cases hz : zF v a with
  | false => exact ⟨_, _, _, h.up (by omega), mX3_repeal_a v hv (nI o) (nI k) sv fl ps (nI q) a n hm hz, mX4_repeal_a v u a n hm hr hz⟩
  | true =>
    obtain ⟨j, hj, rfl⟩ := zL_nI hm (zF_L hz)
    have hF : iF v j = true := (zF_at hm hj).symm.trans hz
    have h8 := (hl j hj).2.2.2 hF
    have e1 := mX3_repeal_t v hv o k sv fl ps (nI q) (nI j) n hm ho hk hz
    rw [zcl hm.2 hj] at e1
    refine ⟨v 10 0 - v 5 j, ZX.rem (v, hv, o, k, sv, fl, ps, q) (zEL v (nI j) (-(nI 6))), vup (zcc u k) 0 (upd (u 0) (36 + 7 * j + 4) (v 10 0)), ?_, ?_, ?_⟩
    · have g1 : GS S (zEL v (nI j) (-(nI 6))) := ⟨n, s, WM_EL hm, WL_EL hm hl hn6, (zEL_10 _ _ _).trans hs, hsS⟩
      have g2 : RM (zEL v (nI j) (-(nI 6))) (upd (u 0) (36 + 7 * j + 4) (v 10 0)) := RM_el hr hm hj h8
      exact (ZRl_rem h g1 g2).up (by omega)
    · rw [ZXh, ZXhr]
      exact e1
    · exact mX4_repeal_t v u k j n hm hr hk h2 hj hF h8
set_option maxHeartbeats 1000000 in
theorem zz_endSession {S : Nat} {v : CV} {hv : Nat → CV} {o k : Nat} {sv : Nat → CV} {fl ps : Nat → Int32} {q : Nat} {u : CV} (h : ZRl S (v, hv, o, k, sv, fl, ps, q) u) (hS : S + 200 < 2 ^ 31) : ∃ (r : Int32) (x2 : ZX) (u2 : CV), ZRl (S + 20) x2 u2 ∧ ZM yX3_endSession cX3_endSession 2 (some .int) 3 90 [.ref 0] (ZX.h (v, hv, o, k, sv, fl, ps, q)) (some (.int r)) x2.h ∧ ZM yX4_endSession cX4_endSession 1 (some .int) 2 44 [.ref 0] (hM u) (some (.int r)) (hM u2) := by
  obtain ⟨⟨⟨n, s, (hm : WM v n), (hl : WL v n), (hs : v 10 0 = nI s), hsS⟩, (hr : RM v (u 0))⟩, ⟨(ho : o < 6), (hk : k ≤ 6), (h2 : u 2 0 = nI k), hh⟩, (hsl : ∀ j, j < 2 → (fl j = nI 0 ∧ u 4 j = nI 0) ∨ (fl j = nI 1 ∧ u 4 j = nI 1 ∧ GS S (sv j) ∧ RM (sv j) (fun i => u 3 (596 * j + i)))), (hw : WP ps (nI q) q), (h6 : u 6 0 = nI q), (h5 : ∀ j, j < q → u 5 j = ps j)⟩ := id h
  have hn6 : ¬ v 10 0 = -(nI 6) := by rw [hs]; exact nI_nn (by omega)
  refine ⟨nI (cnt (iM v) n), ZX.rem (v, hv, o, k, sv, fl, ps, q) (zSe v), vup (zcc u k) 0 (upd (u 0) 3 (v 10 0 + nI 1)), ?_, ?_, ?_⟩
  · have g1 : GS (S + 20) (zSe v) := ⟨n, s + 1, hm, hl, by show v 10 0 + nI 1 = _; rw [hs, nI_add], by omega⟩
    have g2 : RM (zSe v) (upd (u 0) 3 (v 10 0 + nI 1)) := RM_sess hr
    exact ZRl_rem (h.up (by omega)) g1 g2
  · rw [ZXh, ZXhr]
    exact mX3_endSession v hv o k sv fl ps (nI q) n hm ho hk
  · exact mX4_endSession v u k n hm hr hk h2
theorem zSc_both {ps : Nat → Int32} {q : Nat} {u : CV} (h5 : ∀ j, j < q → u 5 j = ps j) : zSc ps q q 0 0 = (zFl (zSg (u 5) q) q 21 0 0 (u 8)).1 ∨ 60 < q := by
  rcases Nat.lt_or_ge 60 q with c | c
  · exact Or.inr c
  left
  have e := zSg_eq h5
  rw [zSc_congr e.symm]
  have hq : 0 < q ∨ ((0 : Nat) = 0 ∧ q = 0) := by omega
  exact zSc_Fl 21 0 0 (u 8) (by omega) hq (Or.inl rfl)
theorem ZRl_zsp {S : Nat} {x : ZX} {u : CV} (h : ZRl S x u) (X R : Int32) (B : Nat → Int32) : ZRl S x (zsp u X R B) := h
theorem ZRl_read {S : Nat} {v : CV} {hv : Nat → CV} {o k : Nat} {sv : Nat → CV} {fl ps : Nat → Int32} {q : Nat} {u : CV} (h : ZRl S (v, hv, o, k, sv, fl, ps, q) u) (X R : Int32) (B : Nat → Int32) {W : CV} {G : Nat → Int32} (g1 : GS S W) (g2 : RM W G) : ZRl S (W, hup hv ((o + k) % 6) v, (if k < 6 then o else (o + 1) % 6), (if k < 6 then k + 1 else 6), sv, fl, ps, 0) (vup (vup (zcc (zsp u X R B) k) 0 G) 6 (upd (u 6) 0 (nI 0))) := by
  have h2 := ZRl_rem (ZRl_zsp h X R B) g1 g2
  exact ⟨h2.1, h2.2.1, h2.2.2.1, ⟨⟨rfl, Nat.zero_le _, fun j hj => absurd hj (Nat.not_lt_zero j)⟩, rfl, fun j hj => absurd hj (Nat.not_lt_zero j)⟩⟩
set_option maxHeartbeats 1000000 in
theorem zz_read {S : Nat} {v : CV} {hv : Nat → CV} {o k : Nat} {sv : Nat → CV} {fl ps : Nat → Int32} {q : Nat} {u : CV} (h : ZRl S (v, hv, o, k, sv, fl, ps, q) u) (hS : S + 200 < 2 ^ 31) : ∃ (r : Int32) (x2 : ZX) (u2 : CV), ZRl (S + 20) x2 u2 ∧ ZM yX3_read cX3_read 3 (some .int) 5 124 [.ref 0] (ZX.h (v, hv, o, k, sv, fl, ps, q)) (some (.int r)) x2.h ∧ ZM yX4_read cX4_read 7 (some .int) 5 121 [.ref 0] (hM u) (some (.int r)) (hM u2) := by
  obtain ⟨⟨⟨n, s, (hm : WM v n), (hl : WL v n), (hs : v 10 0 = nI s), hsS⟩, (hr : RM v (u 0))⟩, ⟨(ho : o < 6), (hk : k ≤ 6), (h2 : u 2 0 = nI k), hh⟩, (hsl : ∀ j, j < 2 → (fl j = nI 0 ∧ u 4 j = nI 0) ∨ (fl j = nI 1 ∧ u 4 j = nI 1 ∧ GS S (sv j) ∧ RM (sv j) (fun i => u 3 (596 * j + i)))), (hw : WP ps (nI q) q), (h6 : u 6 0 = nI q), (h5 : ∀ j, j < q → u 5 j = ps j)⟩ := id h
  have hn6 : ¬ v 10 0 = -(nI 6) := by rw [hs]; exact nI_nn (by omega)
  have hq := hw.2.1
  have hb := (zSc_both (u := u) h5).resolve_right (by omega)
  by_cases hz : zSc ps q q 0 0 = -(nI 6)
  · have hz2 := hb.symm.trans hz
    obtain ⟨hR, hB⟩ := zFl_ok 21 0 0 (u 8) rfl (fun j hj => absurd hj (Nat.not_lt_zero j)) (by decide) hz2 hq
    have e2 := mX4_read_t v u k q n s hm hl hr hk h2 h6 hq hs (by omega) hz2
    generalize zFl (zSg (u 5) q) q 21 0 0 (u 8) = Z at hR hB e2
    have hR20 : Z.2.2.1 ≤ 20 := by
      rcases Nat.lt_or_ge 20 Z.2.2.1 with c | c
      · have c1 := zgd_q (hB 20 c).1
        have c2 := zpo_ge (zSg (u 5) q) 20
        omega
      · exact c
    have k0 := zRd_good hR (fun j hj => (hB j hj).1) _ 0 21 v 0 (u 0) n s (Nat.zero_add _) hm hl hr hs (by omega) (by show q ≤ 0 + 3 * 21; omega)
    have e1 := mX3_read_t v hv o k sv fl ps (nI q) n hm ho hk q hw hz
    rw [zRd_congr (zSg_eq (T := ps) (U := u 5) (fun j hj => (h5 j hj).symm))] at e1
    have e0 : zpo (zSg (u 5) q) 0 = 0 := rfl
    rw [e0] at k0
    generalize zRd (u 5) q 21 0 v 0 = RR at k0 e1 e2
    generalize zRa (u 5) q 21 0 v (u 0) = AA at k0 e2
    obtain ⟨n2, s2, k1, k2, k3, k4, k5⟩ := k0
    have g1 : GS (S + 20) RR.1 := ⟨n2, s2, k1, k2, k4, by omega⟩
    refine ⟨nI RR.2, (RR.1, hup hv ((o + k) % 6) v, (if k < 6 then o else (o + 1) % 6), (if k < 6 then k + 1 else 6), sv, fl, ps, 0), vup (vup (zcc (zsp u (nI Z.2.1) (nI Z.2.2.1) Z.2.2.2) k) 0 AA) 6 (upd (u 6) 0 (nI 0)), ?_, ?_, ?_⟩
    · exact ZRl_read (h.up (show S ≤ S + 20 by omega)) _ _ _ g1 k3
    · rw [ZXh, ZXh]
      exact e1
    · exact e2
  · have e2 := mX4_read_f u q h6 hq (fun z => hz (hb.trans z))
    generalize zFl (zSg (u 5) q) q 21 0 0 (u 8) = Z at e2
    exact ⟨_, _, _, ZRl_zsp (h.up (show S ≤ S + 20 by omega)) _ _ _, mX3_read_f v hv (nI o) (nI k) sv fl ps (nI q) q hw hz, e2⟩
set_option maxHeartbeats 1000000 in
theorem zz_law {S : Nat} {v : CV} {hv : Nat → CV} {o k : Nat} {sv : Nat → CV} {fl ps : Nat → Int32} {q : Nat} {u : CV} (h : ZRl S (v, hv, o, k, sv, fl, ps, q) u) (hS : S + 200 < 2 ^ 31) (a b : Int32) : ∃ (r : Int32) (x2 : ZX) (u2 : CV), ZRl (S + 20) x2 u2 ∧ ZM yX3_law cX3_law 3 (some .int) 4 88 [.ref 0, .int a, .int b] (ZX.h (v, hv, o, k, sv, fl, ps, q)) (some (.int r)) x2.h ∧ ZM yX4_law cX4_law 3 (some .int) 4 88 [.ref 0, .int a, .int b] (hM u) (some (.int r)) (hM u2) := by
  obtain ⟨⟨⟨n, s, (hm : WM v n), (hl : WL v n), (hs : v 10 0 = nI s), hsS⟩, (hr : RM v (u 0))⟩, ⟨(ho : o < 6), (hk : k ≤ 6), (h2 : u 2 0 = nI k), hh⟩, (hsl : ∀ j, j < 2 → (fl j = nI 0 ∧ u 4 j = nI 0) ∨ (fl j = nI 1 ∧ u 4 j = nI 1 ∧ GS S (sv j) ∧ RM (sv j) (fun i => u 3 (596 * j + i)))), (hw : WP ps (nI q) q), (h6 : u 6 0 = nI q), (h5 : ∀ j, j < q → u 5 j = ps j)⟩ := id h
  have hn6 : ¬ v 10 0 = -(nI 6) := by rw [hs]; exact nI_nn (by omega)
  exact ⟨_, _, _, h.up (by omega), mX3_law v hv (nI o) (nI k) sv fl ps (nI q) a b n hm, mX4_law v u a b n hm hl hr⟩
set_option maxHeartbeats 1000000 in
theorem zz_topic {S : Nat} {v : CV} {hv : Nat → CV} {o k : Nat} {sv : Nat → CV} {fl ps : Nat → Int32} {q : Nat} {u : CV} (h : ZRl S (v, hv, o, k, sv, fl, ps, q) u) (hS : S + 200 < 2 ^ 31) (a b : Int32) : ∃ (r : Int32) (x2 : ZX) (u2 : CV), ZRl (S + 20) x2 u2 ∧ ZM yX3_topic cX3_topic 3 (some .int) 6 134 [.ref 0, .int a, .int b] (ZX.h (v, hv, o, k, sv, fl, ps, q)) (some (.int r)) x2.h ∧ ZM yX4_topic cX4_topic 3 (some .int) 5 111 [.ref 0, .int a, .int b] (hM u) (some (.int r)) (hM u2) := by
  obtain ⟨⟨⟨n, s, (hm : WM v n), (hl : WL v n), (hs : v 10 0 = nI s), hsS⟩, (hr : RM v (u 0))⟩, ⟨(ho : o < 6), (hk : k ≤ 6), (h2 : u 2 0 = nI k), hh⟩, (hsl : ∀ j, j < 2 → (fl j = nI 0 ∧ u 4 j = nI 0) ∨ (fl j = nI 1 ∧ u 4 j = nI 1 ∧ GS S (sv j) ∧ RM (sv j) (fun i => u 3 (596 * j + i)))), (hw : WP ps (nI q) q), (h6 : u 6 0 = nI q), (h5 : ∀ j, j < q → u 5 j = ps j)⟩ := id h
  have hn6 : ¬ v 10 0 = -(nI 6) := by rw [hs]; exact nI_nn (by omega)
  exact ⟨_, _, _, h.up (by omega), mX3_topic v hv (nI o) (nI k) sv fl ps (nI q) a b n hm, mX4_topic v u a b n hm hl hr⟩
set_option maxHeartbeats 1000000 in
theorem zz_councillor {S : Nat} {v : CV} {hv : Nat → CV} {o k : Nat} {sv : Nat → CV} {fl ps : Nat → Int32} {q : Nat} {u : CV} (h : ZRl S (v, hv, o, k, sv, fl, ps, q) u) (hS : S + 200 < 2 ^ 31) (a b : Int32) : ∃ (r : Int32) (x2 : ZX) (u2 : CV), ZRl (S + 20) x2 u2 ∧ ZM yX3_councillor cX3_councillor 3 (some .int) 6 133 [.ref 0, .int a, .int b] (ZX.h (v, hv, o, k, sv, fl, ps, q)) (some (.int r)) x2.h ∧ ZM yX4_councillor cX4_councillor 3 (some .int) 5 111 [.ref 0, .int a, .int b] (hM u) (some (.int r)) (hM u2) := by
  obtain ⟨⟨⟨n, s, (hm : WM v n), (hl : WL v n), (hs : v 10 0 = nI s), hsS⟩, (hr : RM v (u 0))⟩, ⟨(ho : o < 6), (hk : k ≤ 6), (h2 : u 2 0 = nI k), hh⟩, (hsl : ∀ j, j < 2 → (fl j = nI 0 ∧ u 4 j = nI 0) ∨ (fl j = nI 1 ∧ u 4 j = nI 1 ∧ GS S (sv j) ∧ RM (sv j) (fun i => u 3 (596 * j + i)))), (hw : WP ps (nI q) q), (h6 : u 6 0 = nI q), (h5 : ∀ j, j < q → u 5 j = ps j)⟩ := id h
  have hn6 : ¬ v 10 0 = -(nI 6) := by rw [hs]; exact nI_nn (by omega)
  exact ⟨_, _, _, h.up (by omega), mX3_councillor v hv (nI o) (nI k) sv fl ps (nI q) a b n hm, mX4_councillor v u a b n hm hl hr⟩
set_option maxHeartbeats 1000000 in
theorem zz_count {S : Nat} {v : CV} {hv : Nat → CV} {o k : Nat} {sv : Nat → CV} {fl ps : Nat → Int32} {q : Nat} {u : CV} (h : ZRl S (v, hv, o, k, sv, fl, ps, q) u) (hS : S + 200 < 2 ^ 31) (a : Int32) : ∃ (r : Int32) (x2 : ZX) (u2 : CV), ZRl (S + 20) x2 u2 ∧ ZM yX3_count cX3_count 2 (some .int) 6 134 [.ref 0, .int a] (ZX.h (v, hv, o, k, sv, fl, ps, q)) (some (.int r)) x2.h ∧ ZM yX4_count cX4_count 2 (some .int) 5 111 [.ref 0, .int a] (hM u) (some (.int r)) (hM u2) := by
  obtain ⟨⟨⟨n, s, (hm : WM v n), (hl : WL v n), (hs : v 10 0 = nI s), hsS⟩, (hr : RM v (u 0))⟩, ⟨(ho : o < 6), (hk : k ≤ 6), (h2 : u 2 0 = nI k), hh⟩, (hsl : ∀ j, j < 2 → (fl j = nI 0 ∧ u 4 j = nI 0) ∨ (fl j = nI 1 ∧ u 4 j = nI 1 ∧ GS S (sv j) ∧ RM (sv j) (fun i => u 3 (596 * j + i)))), (hw : WP ps (nI q) q), (h6 : u 6 0 = nI q), (h5 : ∀ j, j < q → u 5 j = ps j)⟩ := id h
  have hn6 : ¬ v 10 0 = -(nI 6) := by rw [hs]; exact nI_nn (by omega)
  have e1 := mX4_count v u a n hm hl hr
  rw [h2, h6] at e1
  exact ⟨_, _, _, h.up (by omega), mX3_count v hv (nI o) (nI k) sv fl ps (nI q) a n hm, e1⟩
set_option maxHeartbeats 1000000 in
theorem zz_why {S : Nat} {v : CV} {hv : Nat → CV} {o k : Nat} {sv : Nat → CV} {fl ps : Nat → Int32} {q : Nat} {u : CV} (h : ZRl S (v, hv, o, k, sv, fl, ps, q) u) (hS : S + 200 < 2 ^ 31) (a b c d : Int32) : ∃ (r : Int32) (x2 : ZX) (u2 : CV), ZRl (S + 20) x2 u2 ∧ ZM yX3_why cX3_why 6 (some .int) 4 98 [.ref 0, .int a, .int b, .int c, .int d] (ZX.h (v, hv, o, k, sv, fl, ps, q)) (some (.int r)) x2.h ∧ ZM yX4_why cX4_why 6 (some .int) 4 96 [.ref 0, .int a, .int b, .int c, .int d] (hM u) (some (.int r)) (hM u2) := by
  obtain ⟨⟨⟨n, s, (hm : WM v n), (hl : WL v n), (hs : v 10 0 = nI s), hsS⟩, (hr : RM v (u 0))⟩, ⟨(ho : o < 6), (hk : k ≤ 6), (h2 : u 2 0 = nI k), hh⟩, (hsl : ∀ j, j < 2 → (fl j = nI 0 ∧ u 4 j = nI 0) ∨ (fl j = nI 1 ∧ u 4 j = nI 1 ∧ GS S (sv j) ∧ RM (sv j) (fun i => u 3 (596 * j + i)))), (hw : WP ps (nI q) q), (h6 : u 6 0 = nI q), (h5 : ∀ j, j < q → u 5 j = ps j)⟩ := id h
  have hn6 : ¬ v 10 0 = -(nI 6) := by rw [hs]; exact nI_nn (by omega)
  exact ⟨_, _, _, h.up (by omega), mX3_why v hv (nI o) (nI k) sv fl ps (nI q) a b c d n hm, mX4_why v u a b c d n hm hl hr⟩
set_option maxHeartbeats 1000000 in
theorem zz_votes {S : Nat} {v : CV} {hv : Nat → CV} {o k : Nat} {sv : Nat → CV} {fl ps : Nat → Int32} {q : Nat} {u : CV} (h : ZRl S (v, hv, o, k, sv, fl, ps, q) u) (hS : S + 200 < 2 ^ 31) (a b c d : Int32) : ∃ (r : Int32) (x2 : ZX) (u2 : CV), ZRl (S + 20) x2 u2 ∧ ZM yX3_votes cX3_votes 6 (some .int) 3 73 [.ref 0, .int a, .int b, .int c, .int d] (ZX.h (v, hv, o, k, sv, fl, ps, q)) (some (.int r)) x2.h ∧ ZM yX4_votes cX4_votes 6 (some .int) 3 71 [.ref 0, .int a, .int b, .int c, .int d] (hM u) (some (.int r)) (hM u2) := by
  obtain ⟨⟨⟨n, s, (hm : WM v n), (hl : WL v n), (hs : v 10 0 = nI s), hsS⟩, (hr : RM v (u 0))⟩, ⟨(ho : o < 6), (hk : k ≤ 6), (h2 : u 2 0 = nI k), hh⟩, (hsl : ∀ j, j < 2 → (fl j = nI 0 ∧ u 4 j = nI 0) ∨ (fl j = nI 1 ∧ u 4 j = nI 1 ∧ GS S (sv j) ∧ RM (sv j) (fun i => u 3 (596 * j + i)))), (hw : WP ps (nI q) q), (h6 : u 6 0 = nI q), (h5 : ∀ j, j < q → u 5 j = ps j)⟩ := id h
  have hn6 : ¬ v 10 0 = -(nI 6) := by rw [hs]; exact nI_nn (by omega)
  exact ⟨_, _, _, h.up (by omega), mX3_votes v hv (nI o) (nI k) sv fl ps (nI q) a b c d n hm, mX4_votes v u a b c d n hm hl hr⟩
set_option maxHeartbeats 1000000 in
theorem zz_bestRepeal {S : Nat} {v : CV} {hv : Nat → CV} {o k : Nat} {sv : Nat → CV} {fl ps : Nat → Int32} {q : Nat} {u : CV} (h : ZRl S (v, hv, o, k, sv, fl, ps, q) u) (hS : S + 200 < 2 ^ 31) (a b c : Int32) : ∃ (r : Int32) (x2 : ZX) (u2 : CV), ZRl (S + 20) x2 u2 ∧ ZM yX3_bestRepeal cX3_bestRepeal 5 (some .int) 4 100 [.ref 0, .int a, .int b, .int c] (ZX.h (v, hv, o, k, sv, fl, ps, q)) (some (.int r)) x2.h ∧ ZM yX4_bestRepeal cX4_bestRepeal 5 (some .int) 4 98 [.ref 0, .int a, .int b, .int c] (hM u) (some (.int r)) (hM u2) := by
  obtain ⟨⟨⟨n, s, (hm : WM v n), (hl : WL v n), (hs : v 10 0 = nI s), hsS⟩, (hr : RM v (u 0))⟩, ⟨(ho : o < 6), (hk : k ≤ 6), (h2 : u 2 0 = nI k), hh⟩, (hsl : ∀ j, j < 2 → (fl j = nI 0 ∧ u 4 j = nI 0) ∨ (fl j = nI 1 ∧ u 4 j = nI 1 ∧ GS S (sv j) ∧ RM (sv j) (fun i => u 3 (596 * j + i)))), (hw : WP ps (nI q) q), (h6 : u 6 0 = nI q), (h5 : ∀ j, j < q → u 5 j = ps j)⟩ := id h
  have hn6 : ¬ v 10 0 = -(nI 6) := by rw [hs]; exact nI_nn (by omega)
  exact ⟨_, _, _, h.up (by omega), mX3_bestRepeal v hv (nI o) (nI k) sv fl ps (nI q) a b c n hm, mX4_bestRepeal v u a b c n hm hl hr⟩
set_option maxHeartbeats 1000000 in
theorem zz_longestBill {S : Nat} {v : CV} {hv : Nat → CV} {o k : Nat} {sv : Nat → CV} {fl ps : Nat → Int32} {q : Nat} {u : CV} (h : ZRl S (v, hv, o, k, sv, fl, ps, q) u) (hS : S + 200 < 2 ^ 31) (a b : Int32) : ∃ (r : Int32) (x2 : ZX) (u2 : CV), ZRl (S + 20) x2 u2 ∧ ZM yX3_longestBill cX3_longestBill 5 (some .int) 5 125 [.ref 0, .int a, .int b] (ZX.h (v, hv, o, k, sv, fl, ps, q)) (some (.int r)) x2.h ∧ ZM yX4_longestBill cX4_longestBill 5 (some .int) 5 121 [.ref 0, .int a, .int b] (hM u) (some (.int r)) (hM u2) := by
  obtain ⟨⟨⟨n, s, (hm : WM v n), (hl : WL v n), (hs : v 10 0 = nI s), hsS⟩, (hr : RM v (u 0))⟩, ⟨(ho : o < 6), (hk : k ≤ 6), (h2 : u 2 0 = nI k), hh⟩, (hsl : ∀ j, j < 2 → (fl j = nI 0 ∧ u 4 j = nI 0) ∨ (fl j = nI 1 ∧ u 4 j = nI 1 ∧ GS S (sv j) ∧ RM (sv j) (fun i => u 3 (596 * j + i)))), (hw : WP ps (nI q) q), (h6 : u 6 0 = nI q), (h5 : ∀ j, j < q → u 5 j = ps j)⟩ := id h
  have hn6 : ¬ v 10 0 = -(nI 6) := by rw [hs]; exact nI_nn (by omega)
  exact ⟨_, _, _, h.up (by omega), mX3_longestBill v hv (nI o) (nI k) sv fl ps (nI q) a b n hm, mX4_longestBill v u a b n hm hl hr⟩
set_option maxHeartbeats 1000000 in
theorem zz_bestBill {S : Nat} {v : CV} {hv : Nat → CV} {o k : Nat} {sv : Nat → CV} {fl ps : Nat → Int32} {q : Nat} {u : CV} (h : ZRl S (v, hv, o, k, sv, fl, ps, q) u) (hS : S + 200 < 2 ^ 31) : ∃ (r : Int32) (x2 : ZX) (u2 : CV), ZRl (S + 20) x2 u2 ∧ ZM yX3_bestBill cX3_bestBill 7 (some .int) 5 125 [.ref 0] (ZX.h (v, hv, o, k, sv, fl, ps, q)) (some (.int r)) x2.h ∧ ZM yX4_bestBill cX4_bestBill 8 (some .int) 5 121 [.ref 0] (hM u) (some (.int r)) (hM u2) := by
  obtain ⟨⟨⟨n, s, (hm : WM v n), (hl : WL v n), (hs : v 10 0 = nI s), hsS⟩, (hr : RM v (u 0))⟩, ⟨(ho : o < 6), (hk : k ≤ 6), (h2 : u 2 0 = nI k), hh⟩, (hsl : ∀ j, j < 2 → (fl j = nI 0 ∧ u 4 j = nI 0) ∨ (fl j = nI 1 ∧ u 4 j = nI 1 ∧ GS S (sv j) ∧ RM (sv j) (fun i => u 3 (596 * j + i)))), (hw : WP ps (nI q) q), (h6 : u 6 0 = nI q), (h5 : ∀ j, j < q → u 5 j = ps j)⟩ := id h
  have hn6 : ¬ v 10 0 = -(nI 6) := by rw [hs]; exact nI_nn (by omega)
  exact ⟨_, _, _, h.up (by omega), mX3_bestBill v hv (nI o) (nI k) sv fl ps (nI q) n hm, mX4_bestBill v u n hm hl hr⟩
theorem zSI_le : ∀ (f m : Nat) (r : Int64), ∃ m2, m2 ≤ m + f ∧ zSI f m r = nI m2
  | 0, m, r => ⟨m, Nat.le_refl _, rfl⟩
  | f + 1, m, r => by
    rw [zSI]
    split
    · exact ⟨m, by omega, rfl⟩
    · split
      · exact ⟨0, Nat.zero_le _, rfl⟩
      · split
        · obtain ⟨m2, h1, h2⟩ := zSI_le f (m + 1) (zlushr r (nI 8))
          exact ⟨m2, by omega, h2⟩
        · exact ⟨0, Nat.zero_le _, rfl⟩
theorem zpp_eq {T ps : Nat → Int32} {q : Nat} (h : ∀ j, j < q → T j = ps j) (c : Int64) (m : Nat) : ∀ d j, j < q + d → zpp T q c m d j = zpp ps q c m d j
  | 0, j, hj => h j hj
  | d + 1, j, hj => by
    rw [zpp, zpp]
    by_cases e : j = q + d
    · subst e
      rw [upd_at, upd_at]
    · rw [upd_ne e, upd_ne e]
      exact zpp_eq h c m d j (by omega)
theorem zpp_nar {ps : Nat → Int32} {q : Nat} (h : ∀ j, j < q → narrow .char (.int (ps j)) = .int (ps j)) (c : Int64) (m : Nat) : ∀ d j, j < q + d → narrow .char (.int (zpp ps q c m d j)) = .int (zpp ps q c m d j)
  | 0, j, hj => h j hj
  | d + 1, j, hj => by
    rw [zpp]
    by_cases e : j = q + d
    · subst e
      rw [upd_at]
      exact pk_nc _
    · rw [upd_ne e]
      exact zpp_nar h c m d j (by omega)
set_option maxHeartbeats 1000000 in
theorem zz_put {S : Nat} {v : CV} {hv : Nat → CV} {o k : Nat} {sv : Nat → CV} {fl ps : Nat → Int32} {q : Nat} {u : CV} (h : ZRl S (v, hv, o, k, sv, fl, ps, q) u) (hS : S + 200 < 2 ^ 31) (c : Int64) : ∃ (r : Int32) (x2 : ZX) (u2 : CV), ZRl (S + 20) x2 u2 ∧ ZM yX3_put cX3_put 5 (some .int) 1 26 [.ref 0, .long c] (ZX.h (v, hv, o, k, sv, fl, ps, q)) (some (.int r)) x2.h ∧ ZM yX4_put cX4_put 5 (some .int) 2 49 [.ref 0, .long c] (hM u) (some (.int r)) (hM u2) := by
  obtain ⟨⟨⟨n, s, (hm : WM v n), (hl : WL v n), (hs : v 10 0 = nI s), hsS⟩, (hr : RM v (u 0))⟩, ⟨(ho : o < 6), (hk : k ≤ 6), (h2 : u 2 0 = nI k), hh⟩, (hsl : ∀ j, j < 2 → (fl j = nI 0 ∧ u 4 j = nI 0) ∨ (fl j = nI 1 ∧ u 4 j = nI 1 ∧ GS S (sv j) ∧ RM (sv j) (fun i => u 3 (596 * j + i)))), (hw : WP ps (nI q) q), (h6 : u 6 0 = nI q), (h5 : ∀ j, j < q → u 5 j = ps j)⟩ := id h
  have hn6 : ¬ v 10 0 = -(nI 6) := by rw [hs]; exact nI_nn (by omega)
  obtain ⟨m, hm8, hz⟩ := zSI_le 8 0 c
  have hq := hw.2.1
  by_cases h0 : m = 0
  · subst h0
    exact ⟨_, _, _, h.up (by omega), mX3_put_a v hv (nI o) (nI k) sv fl ps (nI q) c hz, mX4_put_a u c hz⟩
  · by_cases hb : 60 < q + m
    · exact ⟨_, _, _, h.up (by omega), mX3_put_b v hv (nI o) (nI k) sv fl ps q m c (by omega) (by omega) hz hq hb, mX4_put_b u q m c (by omega) (by omega) hz h6 hq hb⟩
    · have h3 := h.up (show S ≤ S + 20 by omega)
      refine ⟨_, ⟨v, hv, o, k, sv, fl, zpp ps q c m m, q + m⟩, _, ?_, mX3_put_t v hv (nI o) (nI k) sv fl ps q m c (by omega) (by omega) hz (by omega), mX4_put_t u q m c (by omega) (by omega) hz h6 (by omega)⟩
      exact ⟨h3.1, h3.2.1, h3.2.2.1, ⟨⟨rfl, by show q + m ≤ 60; omega, zpp_nar hw.2.2 c m m⟩, rfl, zpp_eq h5 c m m⟩⟩
set_option maxHeartbeats 1000000 in
theorem zz_wipe {S : Nat} {v : CV} {hv : Nat → CV} {o k : Nat} {sv : Nat → CV} {fl ps : Nat → Int32} {q : Nat} {u : CV} (h : ZRl S (v, hv, o, k, sv, fl, ps, q) u) (hS : S + 200 < 2 ^ 31) : ∃ (r : Int32) (x2 : ZX) (u2 : CV), ZRl (S + 20) x2 u2 ∧ ZM yX3_wipe cX3_wipe 2 (some .int) 1 20 [.ref 0] (ZX.h (v, hv, o, k, sv, fl, ps, q)) (some (.int r)) x2.h ∧ ZM yX4_wipe cX4_wipe 2 (some .int) 0 0 [.ref 0] (hM u) (some (.int r)) (hM u2) := by
  obtain ⟨⟨⟨n, s, (hm : WM v n), (hl : WL v n), (hs : v 10 0 = nI s), hsS⟩, (hr : RM v (u 0))⟩, ⟨(ho : o < 6), (hk : k ≤ 6), (h2 : u 2 0 = nI k), hh⟩, (hsl : ∀ j, j < 2 → (fl j = nI 0 ∧ u 4 j = nI 0) ∨ (fl j = nI 1 ∧ u 4 j = nI 1 ∧ GS S (sv j) ∧ RM (sv j) (fun i => u 3 (596 * j + i)))), (hw : WP ps (nI q) q), (h6 : u 6 0 = nI q), (h5 : ∀ j, j < q → u 5 j = ps j)⟩ := id h
  have hn6 : ¬ v 10 0 = -(nI 6) := by rw [hs]; exact nI_nn (by omega)
  have h3 := h.up (show S ≤ S + 20 by omega)
  have e1 := mX4_wipe u
  rw [h6] at e1
  refine ⟨_, ⟨v, hv, o, k, sv, fl, ps, 0⟩, _, ?_, mX3_wipe v hv (nI o) (nI k) sv fl ps (nI q), e1⟩
  exact ⟨h3.1, h3.2.1, h3.2.2.1, ⟨⟨rfl, Nat.zero_le _, fun j hj => absurd hj (Nat.not_lt_zero j)⟩, rfl, fun j hj => absurd hj (Nat.not_lt_zero j)⟩⟩
set_option maxHeartbeats 1000000 in
theorem zz_fault {S : Nat} {v : CV} {hv : Nat → CV} {o k : Nat} {sv : Nat → CV} {fl ps : Nat → Int32} {q : Nat} {u : CV} (h : ZRl S (v, hv, o, k, sv, fl, ps, q) u) (hS : S + 200 < 2 ^ 31) : ∃ (r : Int32) (x2 : ZX) (u2 : CV), ZRl (S + 20) x2 u2 ∧ ZM yX3_fault cX3_fault 1 (some .int) 4 88 [.ref 0] (ZX.h (v, hv, o, k, sv, fl, ps, q)) (some (.int r)) x2.h ∧ ZM yX4_fault cX4_fault 2 (some .int) 4 90 [.ref 0] (hM u) (some (.int r)) (hM u2) := by
  obtain ⟨⟨⟨n, s, (hm : WM v n), (hl : WL v n), (hs : v 10 0 = nI s), hsS⟩, (hr : RM v (u 0))⟩, ⟨(ho : o < 6), (hk : k ≤ 6), (h2 : u 2 0 = nI k), hh⟩, (hsl : ∀ j, j < 2 → (fl j = nI 0 ∧ u 4 j = nI 0) ∨ (fl j = nI 1 ∧ u 4 j = nI 1 ∧ GS S (sv j) ∧ RM (sv j) (fun i => u 3 (596 * j + i)))), (hw : WP ps (nI q) q), (h6 : u 6 0 = nI q), (h5 : ∀ j, j < q → u 5 j = ps j)⟩ := id h
  have hn6 : ¬ v 10 0 = -(nI 6) := by rw [hs]; exact nI_nn (by omega)
  have hq := hw.2.1
  have hb := (zSc_both (u := u) h5).resolve_right (by omega)
  have e1 := mX4_fault u q h6 hq
  rw [← hb] at e1
  generalize zFl (zSg (u 5) q) q 21 0 0 (u 8) = Z at e1
  exact ⟨_, _, _, ZRl_zsp (h.up (show S ≤ S + 20 by omega)) _ _ _, mX3_fault v hv (nI o) (nI k) sv fl ps (nI q) q hw, e1⟩
set_option maxHeartbeats 1000000 in
theorem zz_undo {S : Nat} {v : CV} {hv : Nat → CV} {o k : Nat} {sv : Nat → CV} {fl ps : Nat → Int32} {q : Nat} {u : CV} (h : ZRl S (v, hv, o, k, sv, fl, ps, q) u) (hS : S + 200 < 2 ^ 31) : ∃ (r : Int32) (x2 : ZX) (u2 : CV), ZRl (S + 20) x2 u2 ∧ ZM yX3_undo cX3_undo 1 (some .int) 3 90 [.ref 0] (ZX.h (v, hv, o, k, sv, fl, ps, q)) (some (.int r)) x2.h ∧ ZM yX4_undo cX4_undo 2 (some .int) 0 0 [.ref 0] (hM u) (some (.int r)) (hM u2) := by
  obtain ⟨⟨⟨n, s, (hm : WM v n), (hl : WL v n), (hs : v 10 0 = nI s), hsS⟩, (hr : RM v (u 0))⟩, ⟨(ho : o < 6), (hk : k ≤ 6), (h2 : u 2 0 = nI k), hh⟩, (hsl : ∀ j, j < 2 → (fl j = nI 0 ∧ u 4 j = nI 0) ∨ (fl j = nI 1 ∧ u 4 j = nI 1 ∧ GS S (sv j) ∧ RM (sv j) (fun i => u 3 (596 * j + i)))), (hw : WP ps (nI q) q), (h6 : u 6 0 = nI q), (h5 : ∀ j, j < q → u 5 j = ps j)⟩ := id h
  have hn6 : ¬ v 10 0 = -(nI 6) := by rw [hs]; exact nI_nn (by omega)
  cases k with
  | zero => exact ⟨_, _, _, h.up (by omega), mX3_undo_f v hv (nI o) sv fl ps (nI q), mX4_undo_f u h2⟩
  | succ k =>
    have h3 := h.up (show S ≤ S + 20 by omega)
    have hk5 : k < 6 := by have : k + 1 ≤ 6 := hk; omega
    have hx : GS (S + 20) (hv ((o + k) % 6)) ∧ RM (hv ((o + k) % 6)) (fun i => u 1 (596 * k + i)) := h3.2.1.2.2.2 k (Nat.lt_succ_self k)
    refine ⟨_, ⟨hv ((o + k) % 6), hv, o, k, sv, fl, ps, q⟩, _, ?_, mX3_undo_t v hv o k sv fl ps (nI q) ho hk5, mX4_undo_t u k hk5 h2⟩
    exact ⟨⟨hx.1, RM_ext hx.2 (fun p hp => zow_at hp)⟩, ⟨ho, by show k ≤ 6; omega, rfl, fun j hj => h3.2.1.2.2.2 j (Nat.lt_succ_of_lt hj)⟩, h3.2.2.1, h3.2.2.2⟩
set_option maxHeartbeats 1000000 in
theorem zz_save {S : Nat} {v : CV} {hv : Nat → CV} {o k : Nat} {sv : Nat → CV} {fl ps : Nat → Int32} {q : Nat} {u : CV} (h : ZRl S (v, hv, o, k, sv, fl, ps, q) u) (hS : S + 200 < 2 ^ 31) (a : Int32) : ∃ (r : Int32) (x2 : ZX) (u2 : CV), ZRl (S + 20) x2 u2 ∧ ZM yX3_save cX3_save 2 (some .int) 3 69 [.ref 0, .int a] (ZX.h (v, hv, o, k, sv, fl, ps, q)) (some (.int r)) x2.h ∧ ZM yX4_save cX4_save 3 (some .int) 3 66 [.ref 0, .int a] (hM u) (some (.int r)) (hM u2) := by
  obtain ⟨⟨⟨n, s, (hm : WM v n), (hl : WL v n), (hs : v 10 0 = nI s), hsS⟩, (hr : RM v (u 0))⟩, ⟨(ho : o < 6), (hk : k ≤ 6), (h2 : u 2 0 = nI k), hh⟩, (hsl : ∀ j, j < 2 → (fl j = nI 0 ∧ u 4 j = nI 0) ∨ (fl j = nI 1 ∧ u 4 j = nI 1 ∧ GS S (sv j) ∧ RM (sv j) (fun i => u 3 (596 * j + i)))), (hw : WP ps (nI q) q), (h6 : u 6 0 = nI q), (h5 : ∀ j, j < q → u 5 j = ps j)⟩ := id h
  have hn6 : ¬ v 10 0 = -(nI 6) := by rw [hs]; exact nI_nn (by omega)
  cases hz : zbt (nI 0) (nI 2) a with
  | false => exact ⟨_, _, _, h.up (by omega), mX3_save_f v hv (nI o) (nI k) sv fl ps (nI q) a hz, mX4_save_f u a hz⟩
  | true =>
    obtain ⟨j, -, hj, rfl⟩ := zbt_ex (by decide) hz
    have h3 := h.up (show S ≤ S + 20 by omega)
    refine ⟨_, ⟨v, hv, o, k, hup sv j v, upd fl j (nI 1), ps, q⟩, _, ?_, mX3_save_t v hv (nI o) (nI k) sv fl ps (nI q) j hj n hm, mX4_save_t v u j hj n hm hr⟩
    refine ⟨h3.1, h3.2.1, fun i hi => ?_, h3.2.2.2⟩
    show (upd fl j (nI 1) i = nI 0 ∧ upd (u 4) j (nI 1) i = nI 0) ∨ (upd fl j (nI 1) i = nI 1 ∧ upd (u 4) j (nI 1) i = nI 1 ∧ GS (S + 20) (hup sv j v i) ∧ RM (hup sv j v i) (fun p => zcp (u 3) (u 0) (596 * j) 596 (596 * i + p)))
    by_cases e : i = j
    · subst e
      rw [upd_at, upd_at, hup_at]
      exact Or.inr ⟨rfl, rfl, h3.1.1, RM_ext hr (fun p hp => zcp_at hp)⟩
    · rw [upd_ne e, upd_ne e, hup_ne e]
      rcases h3.2.2.1 i hi with ⟨y1, y2⟩ | ⟨y1, y2, y3, y4⟩
      · exact Or.inl ⟨y1, y2⟩
      · refine Or.inr ⟨y1, y2, y3, RM_ext y4 (fun p hp => ?_)⟩
        show zcp _ _ _ _ _ = _
        rw [zcp, if_neg (by omega)]
set_option maxHeartbeats 1000000 in
theorem zz_restore {S : Nat} {v : CV} {hv : Nat → CV} {o k : Nat} {sv : Nat → CV} {fl ps : Nat → Int32} {q : Nat} {u : CV} (h : ZRl S (v, hv, o, k, sv, fl, ps, q) u) (hS : S + 200 < 2 ^ 31) (a : Int32) : ∃ (r : Int32) (x2 : ZX) (u2 : CV), ZRl (S + 20) x2 u2 ∧ ZM yX3_restore cX3_restore 2 (some .int) 3 90 [.ref 0, .int a] (ZX.h (v, hv, o, k, sv, fl, ps, q)) (some (.int r)) x2.h ∧ ZM yX4_restore cX4_restore 3 (some .int) 3 66 [.ref 0, .int a] (hM u) (some (.int r)) (hM u2) := by
  obtain ⟨⟨⟨n, s, (hm : WM v n), (hl : WL v n), (hs : v 10 0 = nI s), hsS⟩, (hr : RM v (u 0))⟩, ⟨(ho : o < 6), (hk : k ≤ 6), (h2 : u 2 0 = nI k), hh⟩, (hsl : ∀ j, j < 2 → (fl j = nI 0 ∧ u 4 j = nI 0) ∨ (fl j = nI 1 ∧ u 4 j = nI 1 ∧ GS S (sv j) ∧ RM (sv j) (fun i => u 3 (596 * j + i)))), (hw : WP ps (nI q) q), (h6 : u 6 0 = nI q), (h5 : ∀ j, j < q → u 5 j = ps j)⟩ := id h
  have hn6 : ¬ v 10 0 = -(nI 6) := by rw [hs]; exact nI_nn (by omega)
  cases hz : zbt (nI 0) (nI 2) a with
  | false => exact ⟨_, _, _, h.up (by omega), mX3_restore_f v hv (nI o) (nI k) sv fl ps (nI q) a hz, mX4_restore_f u a hz⟩
  | true =>
    obtain ⟨j, -, hj, rfl⟩ := zbt_ex (by decide) hz
    rcases hsl j hj with ⟨y1, y2⟩ | ⟨y1, y2, y3, y4⟩
    · exact ⟨_, _, _, h.up (by omega), mX3_restore_g v hv (nI o) (nI k) sv fl ps (nI q) j hj y1, mX4_restore_g u j hj y2⟩
    · obtain ⟨n2, s2, k1, k2, k3, k4⟩ := id y3
      have f1 : ¬ fl j = nI 0 := by
        intro z
        exact absurd (z.symm.trans y1) (by decide)
      have f2 : ¬ u 4 j = nI 0 := by
        intro z
        exact absurd (z.symm.trans y2) (by decide)
      refine ⟨nI (cnt (iF (sv j)) n2), ZX.rem (v, hv, o, k, sv, fl, ps, q) (sv j), vup (zcc u k) 0 (zow (u 0) (u 3) (596 * j)), ?_, ?_, ?_⟩
      · have g1 : GS S (sv j) := y3
        have g2 : RM (sv j) (zow (u 0) (u 3) (596 * j)) := RM_ext y4 (fun p hp => zow_at hp)
        exact (ZRl_rem h g1 g2).up (by omega)
      · rw [ZXh, ZXhr]
        exact mX3_restore_t v hv o k sv fl ps (nI q) j hj n2 k1 ho hk f1
      · exact mX4_restore_t (sv j) u k j hj n2 k1 y4 hk h2 f2
