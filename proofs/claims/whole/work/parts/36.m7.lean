/-! RepealedLawsModel: passes, propose, repeal, endSession -/
set_option maxHeartbeats 2000000 in
set_option maxRecDepth 20000 in
theorem mX4_passes (v u : CV) (l t s x : Int32) (n : Nat) (hm : WM v n) (hn : n < 80) (hr : RM v (u 0)) (hx : zNm x n) : ZM yX4_passes cX4_passes 6 (some .int) 1 23 [.ref 0, .int l, .int t, .int s, .int x] (hM u) (some (.int (nI n))) (hM (vup u 0 (zpx (u 0) n l t s (v 10 0) x))) := by
  refine zm_of 4 qX4_passes rfl rfl kX4_passes rfl (Nat.le_of_ble_eq_true rfl) (fun C hC0 => ?_)
  have h1 := RM_made (x := nI (n + 1)) hr
  have h2 := RM_lay (w := 0) (x := l) hn (by decide) h1
  have h3 := RM_lay (w := 1) (x := t) hn (by decide) h2
  have h4 := RM_lay (w := 2) (x := s) hn (by decide) h3
  have h5 := RM_lay (w := 3) (x := v 10 0) hn (by decide) h4
  have h6 := RM_lay (w := 4) (x := -(nI 6)) hn (by decide) h5
  have h7 := RM_lay (w := 5) (x := x) hn (by decide) h6
  have h8 := RM_lay (w := 6) (x := -(nI 6)) hn (by decide) h7
  have r4 : u 0 4 = nI n := hr.2.2.1.trans hm.1
  refine zgo hC0 0 5 rfl ?_
  refine And.intro z596 ?_
  show C 8 [some (.ref 0), some (.int l), some (.int t), some (.int s), some (.int x), some (.int (u 0 4))] [] (hM u)
  rw [r4]
  refine zgo hC0 5 12 rfl ?_
  refine And.intro z596 (And.intro z596 ?_)
  show C 23 [some (.ref 0), some (.int l), some (.int t), some (.int s), some (.int x), some (.int (nI n))] [.int l, .int (nI 0), .int (nI n), .ref 0] (hM (vup u 0 (upd (u 0) 4 (u 0 4 + nI 1))))
  rw [r4, nI_add]
  refine zcallV hC0 (mX4_lays (vup u 0 (upd (u 0) 4 (nI (n + 1)))) n 0 l hn (by decide)) vX4_lays lk4_89 (by decide +kernel : decode cX4_passes 23 = .ok (.invokevirtual 89, 3)) rfl rfl rfl (Nat.le_of_ble_eq_true rfl) (Nat.le_of_ble_eq_true rfl) (Nat.le_of_ble_eq_true rfl) ?_
  refine zgo hC0 18 4 rfl ?_
  refine zcallV hC0 (mX4_lays (vup u 0 (upd (upd (u 0) 4 (nI (n + 1))) (36 + 7 * n + 0) l)) n 1 t hn (by decide)) vX4_lays lk4_89 (by decide +kernel : decode cX4_passes 31 = .ok (.invokevirtual 89, 3)) rfl rfl rfl (Nat.le_of_ble_eq_true rfl) (Nat.le_of_ble_eq_true rfl) (Nat.le_of_ble_eq_true rfl) ?_
  refine zgo hC0 23 4 rfl ?_
  refine zcallV hC0 (mX4_lays (vup u 0 (upd (upd (upd (u 0) 4 (nI (n + 1))) (36 + 7 * n + 0) l) (36 + 7 * n + 1) t)) n 2 s hn (by decide)) vX4_lays lk4_89 (by decide +kernel : decode cX4_passes 39 = .ok (.invokevirtual 89, 3)) rfl rfl rfl (Nat.le_of_ble_eq_true rfl) (Nat.le_of_ble_eq_true rfl) (Nat.le_of_ble_eq_true rfl) ?_
  refine zgo hC0 28 7 rfl ?_
  refine And.intro z596 ?_
  show C 52 [some (.ref 0), some (.int l), some (.int t), some (.int s), some (.int x), some (.int (nI n))] [.int ((upd (upd (upd (upd (u 0) 4 (nI (n + 1))) (36 + 7 * n + 0) l) (36 + 7 * n + 1) t) (36 + 7 * n + 2) s) 3), .int (nI 3), .int (nI n), .ref 0] (hM (vup u 0 (upd (upd (upd (upd (u 0) 4 (nI (n + 1))) (36 + 7 * n + 0) l) (36 + 7 * n + 1) t) (36 + 7 * n + 2) s)))
  rw [show (upd (upd (upd (upd (u 0) 4 (nI (n + 1))) (36 + 7 * n + 0) l) (36 + 7 * n + 1) t) (36 + 7 * n + 2) s) 3 = v 10 0 from h4.2.1]
  refine zcallV hC0 (mX4_lays (vup u 0 (upd (upd (upd (upd (u 0) 4 (nI (n + 1))) (36 + 7 * n + 0) l) (36 + 7 * n + 1) t) (36 + 7 * n + 2) s)) n 3 (v 10 0) hn (by decide)) vX4_lays lk4_89 (by decide +kernel : decode cX4_passes 52 = .ok (.invokevirtual 89, 3)) rfl rfl rfl (Nat.le_of_ble_eq_true rfl) (Nat.le_of_ble_eq_true rfl) (Nat.le_of_ble_eq_true rfl) ?_
  refine zgo hC0 36 4 rfl ?_
  refine zcallV hC0 (mX4_lays (vup u 0 (upd (upd (upd (upd (upd (u 0) 4 (nI (n + 1))) (36 + 7 * n + 0) l) (36 + 7 * n + 1) t) (36 + 7 * n + 2) s) (36 + 7 * n + 3) (v 10 0))) n 4 (-(nI 6)) hn (by decide)) vX4_lays lk4_89 (by decide +kernel : decode cX4_passes 61 = .ok (.invokevirtual 89, 3)) rfl rfl rfl (Nat.le_of_ble_eq_true rfl) (Nat.le_of_ble_eq_true rfl) (Nat.le_of_ble_eq_true rfl) ?_
  refine zgo hC0 41 4 rfl ?_
  refine zcallV hC0 (mX4_lays (vup u 0 (upd (upd (upd (upd (upd (upd (u 0) 4 (nI (n + 1))) (36 + 7 * n + 0) l) (36 + 7 * n + 1) t) (36 + 7 * n + 2) s) (36 + 7 * n + 3) (v 10 0)) (36 + 7 * n + 4) (-(nI 6)))) n 5 x hn (by decide)) vX4_lays lk4_89 (by decide +kernel : decode cX4_passes 70 = .ok (.invokevirtual 89, 3)) rfl rfl rfl (Nat.le_of_ble_eq_true rfl) (Nat.le_of_ble_eq_true rfl) (Nat.le_of_ble_eq_true rfl) ?_
  refine zgo hC0 46 4 rfl ?_
  refine zcallV hC0 (mX4_lays (vup u 0 (upd (upd (upd (upd (upd (upd (upd (u 0) 4 (nI (n + 1))) (36 + 7 * n + 0) l) (36 + 7 * n + 1) t) (36 + 7 * n + 2) s) (36 + 7 * n + 3) (v 10 0)) (36 + 7 * n + 4) (-(nI 6))) (36 + 7 * n + 5) x)) n 6 (-(nI 6)) hn (by decide)) vX4_lays lk4_89 (by decide +kernel : decode cX4_passes 80 = .ok (.invokevirtual 89, 3)) rfl rfl rfl (Nat.le_of_ble_eq_true rfl) (Nat.le_of_ble_eq_true rfl) (Nat.le_of_ble_eq_true rfl) ?_
  show C 83 [some (.ref 0), some (.int l), some (.int t), some (.int s), some (.int x), some (.int (nI n))] [] (hM (vup u 0 (zpy (u 0) n l t s (v 10 0) x)))
  have h8' : zpy (u 0) n l t s (v 10 0) x 3 = v 10 0 := h8.2.1
  refine zgo hC0 51 3 rfl ?_
  refine And.intro (fun (c : x = -(nI 6)) => ?_) (fun (c : ¬ x = -(nI 6)) => ?_)
  · refine zgo hC0 67 2 rfl ?_
    exact ⟨rfl, rfl, by rw [zpx, if_pos c]⟩
  · rcases hx with rfl | ⟨j, hj, rfl⟩
    · exact absurd rfl c
    refine zgo hC0 54 7 rfl ?_
    refine And.intro z596 ?_
    show C 100 [some (.ref 0), some (.int l), some (.int t), some (.int s), some (.int (nI j)), some (.int (nI n))] [.int (zpy (u 0) n l t s (v 10 0) (nI j) 3), .int (nI 4), .int (nI j), .ref 0] (hM (vup u 0 (zpy (u 0) n l t s (v 10 0) (nI j))))
    rw [h8']
    refine zcallV hC0 (mX4_lays (vup u 0 (zpy (u 0) n l t s (v 10 0) (nI j))) j 4 (v 10 0) (by omega) (by decide)) vX4_lays lk4_89 (by decide +kernel : decode cX4_passes 100 = .ok (.invokevirtual 89, 3)) rfl rfl rfl (Nat.le_of_ble_eq_true rfl) (Nat.le_of_ble_eq_true rfl) (Nat.le_of_ble_eq_true rfl) ?_
    refine zgo hC0 62 4 rfl ?_
    refine zcallV hC0 (mX4_lays (vup u 0 (upd (zpy (u 0) n l t s (v 10 0) (nI j)) (36 + 7 * j + 4) (v 10 0))) j 6 (nI n) (by omega) (by decide)) vX4_lays lk4_89 (by decide +kernel : decode cX4_passes 110 = .ok (.invokevirtual 89, 3)) rfl rfl rfl (Nat.le_of_ble_eq_true rfl) (Nat.le_of_ble_eq_true rfl) (Nat.le_of_ble_eq_true rfl) ?_
    refine zgo hC0 67 2 rfl ?_
    exact ⟨rfl, rfl, by rw [zpx, if_neg c, nI_clamp (show j < 2 ^ 31 by omega)]; rfl⟩
set_option maxHeartbeats 2000000 in
set_option maxRecDepth 20000 in
theorem mX4_propose_f (v u : CV) (l t s x : Int32) (n : Nat) (hm : WM v n) (hl : WL v n) (hr : RM v (u 0)) (hw : ¬ zWhy v l t s x n = nI 0) : ZM yX4_propose cX4_propose 6 (some .int) 5 121 [.ref 0, .int l, .int t, .int s, .int x] (hM u) (some (.int (if 0 ≤ zWhy v l t s x n then -(nI 5) else zWhy v l t s x n))) (hM u) := by
  refine zm_of 4 qX4_propose rfl rfl kX4_propose rfl (Nat.le_of_ble_eq_true rfl) (fun C hC0 => ?_)
  refine zgo hC0 0 5 rfl ?_
  refine zcallV hC0 (mX4_why v u l t s x n hm hl hr) vX4_why lk4_119 (by decide +kernel : decode cX4_propose 6 = .ok (.invokevirtual 119, 3)) rfl rfl rfl (Nat.le_of_ble_eq_true rfl) (Nat.le_of_ble_eq_true rfl) (Nat.le_of_ble_eq_true rfl) ?_
  refine zgo hC0 6 3 rfl ?_
  refine And.intro (fun c => absurd c hw) (fun _ => ?_)
  refine zgo hC0 9 2 rfl ?_
  refine And.intro (fun c => ?_) (fun c => ?_)
  · refine zgo hC0 13 2 rfl ?_
    exact zret_i (by rw [if_pos c]; rfl)
  · refine zgo hC0 11 2 rfl ?_
    refine zgo hC0 14 1 rfl ?_
    exact zret_i (by rw [if_neg c])
theorem zWhy_e {v : CV} {l t s x : Int32} {n : Nat} (h : zWhy v l t s x n = nI 0) : zEB v l t s x = nI 0 := by
  rw [zWhy] at h
  by_cases c : zEB v l t s x = nI 0
  · exact c
  · rw [if_neg c] at h
    exact h
set_option maxHeartbeats 2000000 in
set_option maxRecDepth 20000 in
theorem mX4_propose_t (v u : CV) (k : Nat) (l t s x : Int32) (n : Nat) (hm : WM v n) (hl : WL v n) (hr : RM v (u 0)) (hk : k ≤ 6) (h2 : u 2 0 = nI k) (hw : zWhy v l t s x n = nI 0) : ZM yX4_propose cX4_propose 6 (some .int) 5 121 [.ref 0, .int l, .int t, .int s, .int x] (hM u) (some (.int (nI n))) (hM (vup (zcc u k) 0 (zpx (u 0) n l t s (v 10 0) x))) := by
  refine zm_of 4 qX4_propose rfl rfl kX4_propose rfl (Nat.le_of_ble_eq_true rfl) (fun C hC0 => ?_)
  obtain ⟨-, -, -, hx⟩ := zEB_0 hm (zWhy_e hw)
  refine zgo hC0 0 5 rfl ?_
  refine zcallV hC0 (mX4_why v u l t s x n hm hl hr) vX4_why lk4_119 (by decide +kernel : decode cX4_propose 6 = .ok (.invokevirtual 119, 3)) rfl rfl rfl (Nat.le_of_ble_eq_true rfl) (Nat.le_of_ble_eq_true rfl) (Nat.le_of_ble_eq_true rfl) ?_
  rw [hw]
  refine zgo hC0 6 3 rfl ?_
  refine And.intro (fun _ => ?_) (fun c => absurd rfl c)
  refine zgo hC0 15 1 rfl ?_
  refine zcallV hC0 (mX4_changes u k hk h2) vX4_changes lk4_100 (by decide +kernel : decode cX4_propose 30 = .ok (.invokevirtual 100, 3)) rfl rfl rfl (Nat.le_of_ble_eq_true rfl) (Nat.le_of_ble_eq_true rfl) (Nat.le_of_ble_eq_true rfl) ?_
  refine zgo hC0 17 5 rfl ?_
  refine zcallV hC0 (mX4_passes v (zcc u k) l t s x n hm (zWhy_n hm hw) hr hx) vX4_passes lk4_123 (by decide +kernel : decode cX4_propose 39 = .ok (.invokevirtual 123, 3)) rfl rfl rfl (Nat.le_of_ble_eq_true rfl) (Nat.le_of_ble_eq_true rfl) (Nat.le_of_ble_eq_true rfl) ?_
  refine zgo hC0 23 1 rfl ?_
  exact zret_i rfl
theorem RM_el {v : CV} {a : Nat → Int32} {n j : Nat} (hr : RM v a) (hm : WM v n) (hj : j < n) (h8 : v 8 j = -(nI 6)) : RM (zEL v (nI j) (-(nI 6))) (upd a (36 + 7 * j + 4) (v 10 0)) := by
  have hn := hm.2
  rw [zEL, zL_at hm hj, nI_clamp (by omega)]
  have h2 := RM_lay (w := 4) (x := v 10 0) (show j < 80 by omega) (by decide) hr
  refine RM_congr h2 (fun f => ?_)
  by_cases e : f = 8
  · subst e
    show v 8 = upd (v 8) j (-(nI 6))
    funext p
    by_cases e : p = j
    · subst e
      rw [upd_at, h8]
    · rw [upd_ne e]
  · show _ = vup (vup v 6 (upd (v 6) j (v 10 0))) 8 (upd (v 8) j (-(nI 6))) f
    rw [vup_ne e]
set_option maxHeartbeats 2000000 in
set_option maxRecDepth 20000 in
theorem mX4_repeal_a (v u : CV) (x : Int32) (n : Nat) (hm : WM v n) (hr : RM v (u 0)) (hs : zF v x = false) : ZM yX4_repeal cX4_repeal 2 (some .int) 2 46 [.ref 0, .int x] (hM u) (some (.int (zpk (zL v x) (-(nI 5)) (-(nI 1))))) (hM u) := by
  refine zm_of 4 qX4_repeal rfl rfl kX4_repeal rfl (Nat.le_of_ble_eq_true rfl) (fun C hC0 => ?_)
  refine zgo hC0 0 2 rfl ?_
  refine zcallV hC0 (mX4_isLaw v u x n hm hr) vX4_isLaw lk4_113 (by decide +kernel : decode cX4_repeal 2 = .ok (.invokevirtual 113, 3)) rfl rfl rfl (Nat.le_of_ble_eq_true rfl) (Nat.le_of_ble_eq_true rfl) (Nat.le_of_ble_eq_true rfl) ?_
  refine zgo hC0 3 1 rfl ?_
  refine And.intro (fun c => ?_) (fun c => ?_)
  · obtain ⟨j, hj, rfl⟩ := zL_nI hm (b2i_t c)
    have hn := hm.2
    rw [zF_at hm hj] at hs
    refine zgo hC0 6 2 rfl ?_
    refine zcallV hC0 (mX4_isInForce v u j (by omega) hr) vX4_isInForce lk4_44 (by decide +kernel : decode cX4_repeal 12 = .ok (.invokevirtual 44, 3)) rfl rfl rfl (Nat.le_of_ble_eq_true rfl) (Nat.le_of_ble_eq_true rfl) (Nat.le_of_ble_eq_true rfl) ?_
    refine zgo hC0 9 1 rfl ?_
    refine And.intro (fun c2 => absurd (b2i_t c2) (by rw [hs]; simp)) (fun _ => ?_)
    refine zgo hC0 10 2 rfl ?_
    exact zret_i (by rw [b2i_t c]; rfl)
  · refine zgo hC0 4 2 rfl ?_
    exact zret_i (by rw [b2i_f c]; rfl)
set_option maxHeartbeats 2000000 in
set_option maxRecDepth 20000 in
theorem mX4_repeal_t (v u : CV) (k j : Nat) (n : Nat) (hm : WM v n) (hr : RM v (u 0)) (hk : k ≤ 6) (h2 : u 2 0 = nI k) (hj : j < n) (hs : iF v j = true) (h8 : v 8 j = -(nI 6)) : ZM yX4_repeal cX4_repeal 2 (some .int) 2 46 [.ref 0, .int (nI j)] (hM u) (some (.int (v 10 0 - v 5 j))) (hM (vup (zcc u k) 0 (upd (u 0) (36 + 7 * j + 4) (v 10 0)))) := by
  refine zm_of 4 qX4_repeal rfl rfl kX4_repeal rfl (Nat.le_of_ble_eq_true rfl) (fun C hC0 => ?_)
  have hn := hm.2
  have h1 := RM_el hr hm hj h8
  have r3 : u 0 3 = v 10 0 := hr.2.1
  refine zgo hC0 0 2 rfl ?_
  refine zcallV hC0 (mX4_isLaw v u (nI j) n hm hr) vX4_isLaw lk4_113 (by decide +kernel : decode cX4_repeal 2 = .ok (.invokevirtual 113, 3)) rfl rfl rfl (Nat.le_of_ble_eq_true rfl) (Nat.le_of_ble_eq_true rfl) (Nat.le_of_ble_eq_true rfl) ?_
  rw [zL_at hm hj]
  refine zgo hC0 3 1 rfl ?_
  refine And.intro (fun _ => ?_) (fun c => absurd c (by decide))
  refine zgo hC0 6 2 rfl ?_
  refine zcallV hC0 (mX4_isInForce v u j (by omega) hr) vX4_isInForce lk4_44 (by decide +kernel : decode cX4_repeal 12 = .ok (.invokevirtual 44, 3)) rfl rfl rfl (Nat.le_of_ble_eq_true rfl) (Nat.le_of_ble_eq_true rfl) (Nat.le_of_ble_eq_true rfl) ?_
  rw [hs]
  refine zgo hC0 9 1 rfl ?_
  refine And.intro (fun _ => ?_) (fun c => absurd c (by decide))
  refine zgo hC0 12 1 rfl ?_
  refine zcallV hC0 (mX4_changes u k hk h2) vX4_changes lk4_100 (by decide +kernel : decode cX4_repeal 22 = .ok (.invokevirtual 100, 3)) rfl rfl rfl (Nat.le_of_ble_eq_true rfl) (Nat.le_of_ble_eq_true rfl) (Nat.le_of_ble_eq_true rfl) ?_
  refine zgo hC0 14 7 rfl ?_
  refine And.intro z596 ?_
  show C 34 [some (.ref 0), some (.int (nI j))] [.int (u 0 3), .int (nI 4), .int (nI j), .ref 0] (hM (zcc u k))
  rw [r3]
  refine zcallV hC0 (mX4_lays (zcc u k) j 4 (v 10 0) (by omega) (by decide)) vX4_lays lk4_89 (by decide +kernel : decode cX4_repeal 34 = .ok (.invokevirtual 89, 3)) rfl rfl rfl (Nat.le_of_ble_eq_true rfl) (Nat.le_of_ble_eq_true rfl) (Nat.le_of_ble_eq_true rfl) ?_
  refine zgo hC0 22 7 rfl ?_
  refine And.intro z596 ?_
  show C 46 [some (.ref 0), some (.int (nI j))] [.int (nI 3), .int (nI j), .ref 0, .int (upd (u 0) (36 + 7 * j + 4) (v 10 0) 3)] (hM (vup (zcc u k) 0 (upd (u 0) (36 + 7 * j + 4) (v 10 0))))
  rw [upd_ne (show ¬ 3 = 36 + 7 * j + 4 by omega), r3]
  refine zcallV hC0 (mX4_get (zEL v (nI j) (-(nI 6))) (vup (zcc u k) 0 (upd (u 0) (36 + 7 * j + 4) (v 10 0))) j 3 (by omega) (by decide) h1) vX4_get lk4_40 (by decide +kernel : decode cX4_repeal 46 = .ok (.invokevirtual 40, 3)) rfl rfl rfl (Nat.le_of_ble_eq_true rfl) (Nat.le_of_ble_eq_true rfl) (Nat.le_of_ble_eq_true rfl) ?_
  refine zgo hC0 30 2 rfl ?_
  refine ⟨rfl, ?_, rfl⟩
  rw [zEL, zL_at hm hj]
  rfl
set_option maxHeartbeats 2000000 in
set_option maxRecDepth 20000 in
theorem mX4_ends (v u : CV) (n : Nat) (hm : WM v n) (hr : RM v (u 0)) : ZM yX4_ends cX4_ends 3 (some .int) 1 22 [.ref 0] (hM u) (some (.int (nI (cnt (iM v) n)))) (hM (vup u 0 (upd (u 0) 3 (v 10 0 + nI 1)))) := by
  refine zm_of 4 qX4_ends rfl rfl kX4_ends rfl (Nat.le_of_ble_eq_true rfl) (fun C hC0 => ?_)
  have hn := hm.2
  have r3 : u 0 3 = v 10 0 := hr.2.1
  refine zgo hC0 0 4 rfl ?_
  refine zloop n (fun i => ∀ a y : Int32, a = nI (cnt (iM v) i) → y = nI i → C 4 [some (.ref 0), some (.int a), some (.int y)] [] (hM u)) ?_ ?_ _ _ rfl rfl
  · rintro a y rfl rfl
    refine zgo hC0 4 6 rfl ?_
    refine And.intro z596 (And.intro (fun _ => ?_) (fun (c : ¬ u 0 4 ≤ nI n) => absurd (zmge_rf hm hr) c))
    refine zgo hC0 27 10 rfl ?_
    refine And.intro z596 (And.intro z596 ⟨rfl, rfl, ?_⟩)
    show hM (vup u 0 (upd (u 0) 3 (u 0 3 + nI 1))) = _
    rw [r3]
  · rintro i hi ih a y rfl rfl
    refine zgo hC0 4 6 rfl ?_
    refine And.intro z596 (And.intro (fun (c : u 0 4 ≤ nI i) => absurd c (zmge_no hm hr hi)) (fun _ => ?_))
    refine zgo hC0 10 4 rfl ?_
    refine zcallV hC0 (mX4_get v u i 3 (by omega) (by decide) hr) vX4_get lk4_40 (by decide +kernel : decode cX4_ends 18 = .ok (.invokevirtual 40, 3)) rfl rfl rfl (Nat.le_of_ble_eq_true rfl) (Nat.le_of_ble_eq_true rfl) (Nat.le_of_ble_eq_true rfl) ?_
    refine zgo hC0 15 5 rfl ?_
    refine And.intro z596 (And.intro (fun (c : ¬ v 5 i = u 0 3) => ?_) (fun (c : v 5 i = u 0 3) => ?_))
    · rw [r3] at c
      refine zgo hC0 22 5 rfl ?_
      exact ih _ _ (cnt_f2 (decide_eq_false c)) (nI_add i 1)
    · rw [r3] at c
      refine zgo hC0 20 2 rfl ?_
      refine zgo hC0 23 4 rfl ?_
      exact ih _ _ (cnt_t2 (decide_eq_true c)) (nI_add i 1)
set_option maxHeartbeats 2000000 in
set_option maxRecDepth 20000 in
theorem mX4_endSession (v u : CV) (k n : Nat) (hm : WM v n) (hr : RM v (u 0)) (hk : k ≤ 6) (h2 : u 2 0 = nI k) : ZM yX4_endSession cX4_endSession 1 (some .int) 2 44 [.ref 0] (hM u) (some (.int (nI (cnt (iM v) n)))) (hM (vup (zcc u k) 0 (upd (u 0) 3 (v 10 0 + nI 1)))) := by
  refine zm_of 4 qX4_endSession rfl rfl kX4_endSession rfl (Nat.le_of_ble_eq_true rfl) (fun C hC0 => ?_)
  refine zgo hC0 0 1 rfl ?_
  refine zcallV hC0 (mX4_changes u k hk h2) vX4_changes lk4_100 (by decide +kernel : decode cX4_endSession 1 = .ok (.invokevirtual 100, 3)) rfl rfl rfl (Nat.le_of_ble_eq_true rfl) (Nat.le_of_ble_eq_true rfl) (Nat.le_of_ble_eq_true rfl) ?_
  refine zgo hC0 2 1 rfl ?_
  refine zcallV hC0 (mX4_ends v (zcc u k) n hm hr) vX4_ends lk4_126 (by decide +kernel : decode cX4_endSession 5 = .ok (.invokevirtual 126, 3)) rfl rfl rfl (Nat.le_of_ble_eq_true rfl) (Nat.le_of_ble_eq_true rfl) (Nat.le_of_ble_eq_true rfl) ?_
  refine zgo hC0 4 1 rfl ?_
  exact zret_i rfl
