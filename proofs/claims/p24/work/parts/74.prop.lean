/-! isStep: propose -/
theorem EB0 {v : CV} {l b c : Nat} {x : Int32} (l1 : 1 ≤ l) (l2 : l < 10) (hb : b < 6) (hc : c < 3) (hx : (decide (x = -(nI 6)) || zL v x) = true) : zEB v (nI l) (nI b) (nI c) x = nI 0 := by
  rw [zEB, zbt_n (Nat.zero_le _) hb (by decide), hx, zbt_n l1 l2 (by decide), zbt_n (Nat.zero_le _) hc (by decide)]
  rfl
theorem nm_ok {v : CV} {n : Nat} {x : Int32} (hm : WM v n) (hx : zNm x n) : (decide (x = -(nI 6)) || zL v x) = true := by
  rcases hx with rfl | ⟨j, hj, rfl⟩
  · rfl
  · rw [zL_at hm hj, Bool.or_true]
theorem best0 {v : CV} {l b c n : Nat} (l1 : 1 ≤ l) (l2 : l < 10) (hb : b < 6) (hc : c < 3) : zBestR v (nI l) (nI b) (nI c) n = zBR v (nI l) (nI b) (nI c) n := by
  rw [zBestR, if_pos (EB0 l1 l2 hb hc rfl)]
theorem why0 {v : CV} {l b c n : Nat} {x : Int32} (hm : WM v n) (l1 : 1 ≤ l) (l2 : l < 10) (hb : b < 6) (hc : c < 3) (hx : zNm x n) (h : zWhy v (nI l) (nI b) (nI c) x n = nI 0) : n < 80 ∧ zRA v (nI l) (nI b) (nI c) x n = nI 0 := by
  rw [zWhy, if_pos (EB0 l1 l2 hb hc (nm_ok hm hx))] at h
  cases e : zFull v with
  | true =>
    rw [e] at h
    have h : -(nI 4) = nI 0 := h
    exact absurd h (by decide)
  | false =>
    rw [e] at h
    exact ⟨zFull_n hm e, h⟩
theorem cnt_flip {p q : Nat → Bool} {a : Nat} (hp : p a = true) (hq : q a = false) : ∀ n, a < n → (∀ i, i < n → ¬ i = a → p i = q i) → cnt p n = cnt q n + 1
  | 0, h, _ => absurd h (by omega)
  | n + 1, h, hh => by
    by_cases e : a = n
    · subst e
      rw [cnt_s, cnt_s, hp, hq, cnt_congr (fun i hi => hh i (by omega) (by omega))]
      rfl
    · rw [cnt_s, cnt_s, cnt_flip hp hq n (by omega) (fun i hi hne => hh i (by omega) hne), hh n (by omega) (fun q => e q.symm)]
      omega
theorem cnt_EN6 {v : CV} {l t u : Int32} {n : Nat} (hn : n < 80) : cnt (iF (zEN v l t u (-(nI 6)) n)) (n + 1) = cnt (iF v) n + 1 := by
  have hz : zNm (-(nI 6)) n := Or.inl rfl
  rw [cnt_s, iF_n (EN_n hn hz).2.2.2.2.1, cnt_congr (fun j hj => iF_c (EN_k hn hz hj (fun q => nI_nn (j := j) (by omega) q.symm)).1)]
  rfl
theorem cnt_ENa {v : CV} {l t u : Int32} {n s a : Nat} (hn : n < 80) (hs : v 10 0 = nI s) (hS : s < 2 ^ 31) (ha : a < n) (hf : iF v a = true) : cnt (iF (zEN v l t u (nI a) n)) (n + 1) = cnt (iF v) n := by
  have hz : zNm (nI a) n := Or.inr ⟨a, ha, rfl⟩
  have hq : iF (zEN v l t u (nI a) n) a = false := iF_s hS ((EN_r hn ha).1.trans hs)
  rw [cnt_s, iF_n (EN_n hn hz).2.2.2.2.1, cnt_flip hf hq n ha (fun i hi hne => (iF_c (EN_k hn hz hi (fun q => hne ((nI_eq (by omega) (by omega)).mp q).symm)).1).symm)]
  rfl
def sP (a b z : Int32) (L l t u : Nat) (best lw : Int32) : List (Option Value) := [some (.ref 0), some (.ref 97), some (.int a), some (.int b), some (.int z), some (.int (nI L)), some (.int (nI l)), some (.int (nI t)), some (.int (nI u)), some (.int best), some (.int lw), none, none, none]
set_option maxHeartbeats 4000000 in
set_option maxRecDepth 20000 in
theorem s_p2 {S : Nat} {x y : ZX} (hS0 : S < 2 ^ 20) (h : RR S x y) {n s : Nat} (hG : GW S n s x.v) (hM : MR n x.v y.v) (a b z : Int32) {l t u : Nat} (l1 : 1 ≤ l) (l2 : l < 10) (ht : t < 6) (hu : u < 3) {lw : Int32} (hw : zNm lw n) : ∃ x2 y2, RR S x2 y2 ∧ SG x y x2 y2 642 (sP a b z n l t u (zBestR x.v (nI l) (nI t) (nI u) n) lw) := by
  obtain ⟨⟨e1, e2, e3, e4, e5, e6⟩, -, hH, hV⟩ := id h
  have hm := hG.1
  have hl := hG.2.1
  have hs := hG.2.2.1
  have hsS := hG.2.2.2.1
  have hn := hm.2
  have ho : y.o < 6 := by rw [← e1]; exact e3
  have hk : y.k ≤ 6 := by rw [← e2]; exact e4
  have go : ∀ (x2 y2 : ZX) (told : Int32), ZM yX3_propose cX3_propose 6 (some .int) 5 123 [.ref 0, .int (nI l), .int (nI t), .int (nI u), .int lw] x.h (some (.int told)) x2.h → ZM yX3_propose cX3_propose 6 (some .int) 5 123 [.ref 0, .int (nI l), .int (nI 5 - nI t), .int (nx (nI u)), .int lw] y.h (some (.int told)) y2.h → (∀ C : ZP, zR 5 cL_isStep qL_isStep 14 8 188 (zR1 (some .boolean) (some (.int (b2i true))) (hLL x2 y2)) (zR0 (some .boolean) (some (.int (b2i true))) (hLL x2 y2)) C → C 806 [some (.ref 0), some (.ref 97), some (.int a), some (.int b), some (.int z), some (.int (nI n)), some (.int (nI l)), some (.int (nI t)), some (.int (nI u)), some (.int (zBestR x.v (nI l) (nI t) (nI u) n)), some (.int lw), some (.int (zWhy x.v (nI l) (nI t) (nI u) lw n)), some (.int (nI (cnt (iF x.v) n))), some (.int told)] [] (hLL x2 y2) → C 719 [some (.ref 0), some (.ref 97), some (.int a), some (.int b), some (.int z), some (.int (nI n)), some (.int (nI l)), some (.int (nI t)), some (.int (nI u)), some (.int (zBestR x.v (nI l) (nI t) (nI u) n)), some (.int lw), some (.int (zWhy x.v (nI l) (nI t) (nI u) lw n)), some (.int (nI (cnt (iF x.v) n))), some (.int told)] [] (hLL x2 y2)) → SG x y x2 y2 642 (sP a b z n l t u (zBestR x.v (nI l) (nI t) (nI u) n) lw) := by
    intro x2 y2 told h1 h2 h3 C hC0
    refine zgo hC0 304 5 rfl ?_
    refine zcallVb (sg := zbl 0 97) hC0 (o_why x (nI l) (nI t) (nI u) lw hm) (lSBo _ _ _) lnd1 (Nat.le_of_ble_eq_true rfl) vX3_why lk5_81 (by decide +kernel : decode cL_isStep 651 = .ok (.invokevirtual 81, 3)) rfl rfl rfl (Nat.le_of_ble_eq_true rfl) (Nat.le_of_ble_eq_true rfl) (Nat.le_of_ble_eq_true rfl) ?_
    refine zgo hC0 310 3 rfl ?_
    refine zcallVb (sg := zbl 0 97) hC0 (o_count x (j := 5) (by decide) hm) (lSBo _ _ _) lnd1 (Nat.le_of_ble_eq_true rfl) vX3_count lk5_33 (by decide +kernel : decode cL_isStep 658 = .ok (.invokevirtual 33, 3)) rfl rfl rfl (Nat.le_of_ble_eq_true rfl) (Nat.le_of_ble_eq_true rfl) (Nat.le_of_ble_eq_true rfl) ?_
    refine zgo hC0 314 6 rfl ?_
    refine zcallVb (sg := zbl 0 97) hC0 h1 (lSBo _ _ _) lnd1 (Nat.le_of_ble_eq_true rfl) vX3_propose lk5_85 (by decide +kernel : decode cL_isStep 672 = .ok (.invokevirtual 85, 3)) rfl rfl rfl (Nat.le_of_ble_eq_true rfl) (Nat.le_of_ble_eq_true rfl) (Nat.le_of_ble_eq_true rfl) ?_
    refine zgo hC0 321 8 rfl ?_
    refine zcallS hC0 (mL_next (nI u) _) vL_next lk5_40 (by decide +kernel : decode cL_isStep 688 = .ok (.invokestatic 40, 3)) rfl rfl (Nat.le_of_ble_eq_true rfl) (Nat.le_of_ble_eq_true rfl) (Nat.le_of_ble_eq_true rfl) ?_
    refine zcallVb (sg := zbl 97 97) hC0 (q_bestR y hM hm hl (nI l) ht hu) (lSBp _ _ _) lnd2 (Nat.le_of_ble_eq_true rfl) vX3_bestRepeal lk5_78 (by decide +kernel : decode cL_isStep 691 = .ok (.invokevirtual 78, 3)) rfl rfl rfl (Nat.le_of_ble_eq_true rfl) (Nat.le_of_ble_eq_true rfl) (Nat.le_of_ble_eq_true rfl) ?_
    refine zgo hC0 331 1 rfl ?_
    refine And.intro (fun c => absurd (rfl) c) (fun _ => ?_)
    refine zgo hC0 332 7 rfl ?_
    refine zcallS hC0 (mL_next (nI u) _) vL_next lk5_40 (by decide +kernel : decode cL_isStep 708 = .ok (.invokestatic 40, 3)) rfl rfl (Nat.le_of_ble_eq_true rfl) (Nat.le_of_ble_eq_true rfl) (Nat.le_of_ble_eq_true rfl) ?_
    refine zgo hC0 340 1 rfl ?_
    refine zcallVb (sg := zbl 97 97) hC0 h2 (lSBp _ _ _) lnd2 (Nat.le_of_ble_eq_true rfl) vX3_propose lk5_85 (by decide +kernel : decode cL_isStep 713 = .ok (.invokevirtual 85, 3)) rfl rfl rfl (Nat.le_of_ble_eq_true rfl) (Nat.le_of_ble_eq_true rfl) (Nat.le_of_ble_eq_true rfl) ?_
    refine zgo hC0 342 1 rfl ?_
    refine And.intro (fun c => absurd (rfl) c) (fun _ => ?_)
    refine h3 C hC0 ?_
    refine zgo hC0 384 2 rfl ?_
    refine zgo hC0 387 1 rfl ?_
    exact zret_b rfl
  by_cases hy : zWhy x.v (nI l) (nI t) (nI u) lw n = nI 0
  · obtain ⟨hn80, hra⟩ := why0 hm l1 l2 ht hu hw hy
    obtain ⟨x1, x2⟩ := RA0 hm hw hra
    have hG2 : GW S (n + 1) s (zEN x.v (nI l) (nI t) (nI u) lw n) := GW_EN hG hn80 (by omega) ⟨l, l1, l2, rfl⟩ ⟨t, ht, rfl⟩ ⟨u, hu, rfl⟩ x1 x2
    obtain ⟨n2, n3, n4, n5, n6, n7, n8⟩ := EN_n (v := x.v) (l := nI l) (t := nI t) (s := nI u) hn80 hw
    have hm2 : WM (x.rem (zEN x.v (nI l) (nI t) (nI u) lw n)).v (n + 1) := hG2.1
    refine ⟨x.rem (zEN x.v (nI l) (nI t) (nI u) lw n), y.rem (zEN y.v (nI l) (nI (5 - t)) (nx (nI u)) lw n), RR_rem h (Nat.le_refl S) ⟨n + 1, s, hG2, mr_EN hM hn80 hw ht _ _⟩, go _ _ (nI n) (o_prop_t x _ _ _ _ hm e3 e4 hy) (q_prop_t y hM hm hl _ _ ht hu ho hk hy) (fun C hC0 k => ?_)⟩
    refine zgo hC0 343 2 rfl ?_
    refine And.intro (fun c => absurd (hy) c) (fun _ => ?_)
    refine zgo hC0 345 3 rfl ?_
    refine And.intro (fun c => absurd (rfl) c) (fun _ => ?_)
    refine zgo hC0 348 2 rfl ?_
    refine zcallVb (sg := zbl 0 97) hC0 (o_count (x.rem (zEN x.v (nI l) (nI t) (nI u) lw n)) (j := 5) (by decide) hm2) (lSBo _ _ _) lnd1 (Nat.le_of_ble_eq_true rfl) vX3_count lk5_33 (by decide +kernel : decode cL_isStep 733 = .ok (.invokevirtual 33, 3)) rfl rfl rfl (Nat.le_of_ble_eq_true rfl) (Nat.le_of_ble_eq_true rfl) (Nat.le_of_ble_eq_true rfl) ?_
    have tail : C 752 [some (.ref 0), some (.ref 97), some (.int a), some (.int b), some (.int z), some (.int (nI n)), some (.int (nI l)), some (.int (nI t)), some (.int (nI u)), some (.int (zBestR x.v (nI l) (nI t) (nI u) n)), some (.int lw), some (.int (zWhy x.v (nI l) (nI t) (nI u) lw n)), some (.int (nI (cnt (iF x.v) n))), some (.int (nI n))] [] (hLL (x.rem (zEN x.v (nI l) (nI t) (nI u) lw n)) (y.rem (zEN y.v (nI l) (nI (5 - t)) (nx (nI u)) lw n))) := by
      refine zgo hC0 359 3 rfl ?_
      refine zcallVb (sg := zbl 0 97) hC0 (o_lawf (x.rem (zEN x.v (nI l) (nI t) (nI u) lw n)) (Nat.lt_succ_self n) (j := 0) (by decide) hm2) (lSBo _ _ _) lnd1 (Nat.le_of_ble_eq_true rfl) vX3_law lk5_56 (by decide +kernel : decode cL_isStep 756 = .ok (.invokevirtual 56, 3)) rfl rfl rfl (Nat.le_of_ble_eq_true rfl) (Nat.le_of_ble_eq_true rfl) (Nat.le_of_ble_eq_true rfl) ?_
      refine zgo hC0 363 2 rfl ?_
      refine And.intro (fun c => absurd (n2) c) (fun _ => ?_)
      refine zgo hC0 365 3 rfl ?_
      refine zcallVb (sg := zbl 0 97) hC0 (o_lawf (x.rem (zEN x.v (nI l) (nI t) (nI u) lw n)) (Nat.lt_succ_self n) (j := 5) (by decide) hm2) (lSBo _ _ _) lnd1 (Nat.le_of_ble_eq_true rfl) vX3_law lk5_56 (by decide +kernel : decode cL_isStep 768 = .ok (.invokevirtual 56, 3)) rfl rfl rfl (Nat.le_of_ble_eq_true rfl) (Nat.le_of_ble_eq_true rfl) (Nat.le_of_ble_eq_true rfl) ?_
      refine zgo hC0 369 2 rfl ?_
      refine And.intro (fun c => absurd (n7) c) (fun _ => ?_)
      refine zgo hC0 371 1 rfl ?_
      exact k
    refine zgo hC0 351 3 rfl ?_
    rcases x1 with rfl | ⟨i, hi, rfl, fi, li⟩
    · refine And.intro (fun c => absurd c (by decide)) (fun _ => ?_)
      refine zgo hC0 354 2 rfl ?_
      refine zgo hC0 357 2 rfl ?_
      refine And.intro (fun c => absurd ?_ c) (fun _ => tail)
      show nI (cnt (iF (zEN x.v (nI l) (nI t) (nI u) (-(nI 6)) n)) (n + 1)) = nI (cnt (iF x.v) n) + nI 1
      rw [cnt_EN6 hn80, nI_add]
    · refine And.intro (fun _ => ?_) (fun c => absurd (nI_pos' (n := i) (by omega)) c)
      refine zgo hC0 356 3 rfl ?_
      refine And.intro (fun c => absurd ?_ c) (fun _ => tail)
      show nI (cnt (iF (zEN x.v (nI l) (nI t) (nI u) (nI i) n)) (n + 1)) = nI (cnt (iF x.v) n) + nI 0
      rw [cnt_ENa hn80 hs (by omega) hi fi]
      exact (Int32.add_zero _).symm
  · have p1 := o_prop_f x _ _ _ _ hm hy
    have p2 := q_prop_f y hM hm hl _ _ ht hu hy
    have end4 : ∀ (C : ZP) (ls : List (Option Value)), zR 5 cL_isStep qL_isStep 14 8 188 (zR1 (some .boolean) (some (.int (b2i true))) (hLL x y)) (zR0 (some .boolean) (some (.int (b2i true))) (hLL x y)) C → ls = [some (.ref 0), some (.ref 97), some (.int a), some (.int b), some (.int z), some (.int (nI n)), some (.int (nI l)), some (.int (nI t)), some (.int (nI u)), some (.int (zBestR x.v (nI l) (nI t) (nI u) n)), some (.int lw), some (.int (zWhy x.v (nI l) (nI t) (nI u) lw n)), some (.int (nI (cnt (iF x.v) n))), some (.int (if 0 ≤ zWhy x.v (nI l) (nI t) (nI u) lw n then -(nI 5) else zWhy x.v (nI l) (nI t) (nI u) lw n))] → C 806 ls [] (hLL x y) → C 796 ls [] (hLL x y) := by
      rintro C ls hC0 rfl k
      refine zgo hC0 379 2 rfl ?_
      refine zcallVb (sg := zbl 0 97) hC0 (o_count x (j := 4) (by decide) hm) (lSBo _ _ _) lnd1 (Nat.le_of_ble_eq_true rfl) vX3_count lk5_33 (by decide +kernel : decode cL_isStep 798 = .ok (.invokevirtual 33, 3)) rfl rfl rfl (Nat.le_of_ble_eq_true rfl) (Nat.le_of_ble_eq_true rfl) (Nat.le_of_ble_eq_true rfl) ?_
      refine zgo hC0 382 2 rfl ?_
      refine And.intro (fun c => absurd hm.1 c) (fun _ => k)
    refine ⟨x, y, h, go x y _ p1 p2 (fun C hC0 k => ?_)⟩
    refine zgo hC0 343 2 rfl ?_
    refine And.intro (fun _ => ?_) (fun c => absurd c (hy))
    refine zgo hC0 372 3 rfl ?_
    refine And.intro (fun c => ?_) (fun c => ?_)
    · refine zgo hC0 377 2 rfl ?_
      refine And.intro (fun q => absurd (if_pos c) q) (fun _ => end4 C _ hC0 rfl k)
    · refine zgo hC0 375 2 rfl ?_
      refine zgo hC0 378 1 rfl ?_
      refine And.intro (fun q => absurd (if_neg c) q) (fun _ => end4 C _ hC0 rfl k)
set_option maxHeartbeats 4000000 in
set_option maxRecDepth 20000 in
theorem s_prop {S : Nat} {x y : ZX} (hS0 : S < 2 ^ 20) (h : RR S x y) (a b z : Int32) : ∃ x2 y2, RR S x2 y2 ∧ ∃ n, WM x.v n ∧ SG x y x2 y2 555 (sS a b z n) := by
  obtain ⟨⟨e1, e2, e3, e4, e5, e6⟩, ⟨n, s, hG, hM⟩, hH, hV⟩ := id h
  have hm := hG.1
  have hn := hm.2
  obtain ⟨l, hl2, el⟩ : ∃ l, l < 9 ∧ upn b 9 = l := ⟨_, upn_lt b (by decide), rfl⟩
  obtain ⟨t, ht, et⟩ : ∃ t, t < 6 ∧ ((upn z 2 = 0 ∧ upn (b >>> (nI 4 &&& 31)) 6 = t) ∨ (¬ upn z 2 = 0 ∧ upn (b >>> (nI 4 &&& 31)) 2 = t)) := by
    by_cases c : upn z 2 = 0
    · exact ⟨_, upn_lt _ (by decide), Or.inl ⟨c, rfl⟩⟩
    · exact ⟨_, Nat.lt_trans (upn_lt _ (by decide)) (show 2 < 6 by decide), Or.inr ⟨c, rfl⟩⟩
  obtain ⟨u, hu, eu⟩ : ∃ u, u < 3 ∧ upn (b >>> (nI 7 &&& 31)) 3 = u := ⟨_, upn_lt _ (by decide), rfl⟩
  have hb0 : zBestR x.v (nI (1 + l)) (nI t) (nI u) n = zBR x.v (nI (1 + l)) (nI t) (nI u) n := best0 (by omega) (by omega) ht hu
  obtain ⟨lw, hw, hr⟩ : ∃ lw, zNm lw n ∧ ((¬ upn (z >>> (nI 2 &&& 31)) 4 = 0 ∧ lw = zBestR x.v (nI (1 + l)) (nI t) (nI u) n) ∨ (upn (z >>> (nI 2 &&& 31)) 4 = 0 ∧ n = 0 ∧ lw = zBestR x.v (nI (1 + l)) (nI t) (nI u) n) ∨ (upn (z >>> (nI 2 &&& 31)) 4 = 0 ∧ 0 < n ∧ lw = nI (upn (z >>> (nI 4 &&& 31)) n))) := by
    have hz : zNm (zBestR x.v (nI (1 + l)) (nI t) (nI u) n) n := by rw [hb0]; exact zBR_nm _ _ _ _ _
    by_cases c : upn (z >>> (nI 2 &&& 31)) 4 = 0
    · by_cases c2 : n = 0
      · exact ⟨_, hz, Or.inr (Or.inl ⟨c, c2, rfl⟩)⟩
      · exact ⟨_, Or.inr ⟨_, upn_lt (z >>> (nI 4 &&& 31)) (show 0 < n by omega), rfl⟩, Or.inr (Or.inr ⟨c, by omega, rfl⟩)⟩
    · exact ⟨_, hz, Or.inl ⟨c, rfl⟩⟩
  obtain ⟨x2, y2, hR, hC⟩ := s_p2 hS0 h hG hM a b z (l := 1 + l) (by omega) (by omega) ht hu hw
  refine ⟨x2, y2, hR, n, hm, fun C hC0 => ?_⟩
  have hC := hC C hC0
  have c598 : C 598 [some (.ref 0), some (.ref 97), some (.int a), some (.int b), some (.int z), some (.int (nI n)), some (.int (nI (1 + l))), some (.int (nI t)), some (.int (nI u)), none, none, none, none, none] [] (hLL x y) := by
    refine zgo hC0 282 4 rfl ?_
    refine zcallVb (sg := zbl 0 97) hC0 (o_bestR x (nI (1 + l)) (nI t) (nI u) hm) (lSBo _ _ _) lnd1 (Nat.le_of_ble_eq_true rfl) vX3_bestRepeal lk5_78 (by decide +kernel : decode cL_isStep 605 = .ok (.invokevirtual 78, 3)) rfl rfl rfl (Nat.le_of_ble_eq_true rfl) (Nat.le_of_ble_eq_true rfl) (Nat.le_of_ble_eq_true rfl) ?_
    refine zgo hC0 287 5 rfl ?_
    refine zcallS hC0 (mL_up (z >>> (nI 2 &&& 31)) 4 (by decide) (by decide) (hLL x y)) vL_up lk5_27 (by decide +kernel : decode cL_isStep 615 = .ok (.invokestatic 27, 3)) rfl rfl (Nat.le_of_ble_eq_true rfl) (Nat.le_of_ble_eq_true rfl) (Nat.le_of_ble_eq_true rfl) ?_
    refine zgo hC0 293 1 rfl ?_
    rcases hr with ⟨c, rfl⟩ | ⟨c, c2, rfl⟩ | ⟨c, c2, rfl⟩
    · refine And.intro (fun _ => ?_) (fun q => absurd (Int32.not_le.mp (nI_nle (by omega) (by have := upn_lt (z >>> (nI 2 &&& 31)) (m := 4) (by decide); omega))) q)
      refine zgo hC0 296 2 rfl ?_
      refine zgo hC0 303 1 rfl ?_
      exact hC
    · rw [c]
      refine And.intro (fun c => absurd c (by decide)) (fun _ => ?_)
      refine zgo hC0 294 2 rfl ?_
      subst c2
      refine And.intro (fun q => absurd rfl q) (fun _ => ?_)
      refine zgo hC0 296 2 rfl ?_
      refine zgo hC0 303 1 rfl ?_
      exact hC
    · rw [c]
      refine And.intro (fun c => absurd c (by decide)) (fun _ => ?_)
      refine zgo hC0 294 2 rfl ?_
      refine And.intro (fun _ => ?_) (fun c => absurd c (nI_ne0 c2 (by omega)))
      refine zgo hC0 298 4 rfl ?_
      refine zcallS hC0 (mL_up (z >>> (nI 4 &&& 31)) n c2 (by omega) (hLL x y)) vL_up lk5_27 (by decide +kernel : decode cL_isStep 637 = .ok (.invokestatic 27, 3)) rfl rfl (Nat.le_of_ble_eq_true rfl) (Nat.le_of_ble_eq_true rfl) (Nat.le_of_ble_eq_true rfl) ?_
      refine zgo hC0 303 1 rfl ?_
      exact hC
  rw [← nI_add] at c598
  refine zgo hC0 258 3 rfl ?_
  refine zcallS hC0 (mL_up b 9 (by decide) (by decide) (hLL x y)) vL_up lk5_27 (by decide +kernel : decode cL_isStep 559 = .ok (.invokestatic 27, 3)) rfl rfl (Nat.le_of_ble_eq_true rfl) (Nat.le_of_ble_eq_true rfl) (Nat.le_of_ble_eq_true rfl) ?_
  rw [el]
  refine zgo hC0 262 7 rfl ?_
  refine zcallS hC0 (mL_up z 2 (by decide) (by decide) (hLL x y)) vL_up lk5_27 (by decide +kernel : decode cL_isStep 571 = .ok (.invokestatic 27, 3)) rfl rfl (Nat.le_of_ble_eq_true rfl) (Nat.le_of_ble_eq_true rfl) (Nat.le_of_ble_eq_true rfl) ?_
  refine zgo hC0 270 1 rfl ?_
  have c583 : ∀ m : Nat, 0 < m → m < 100 → upn (b >>> (nI 4 &&& 31)) m = t → C 583 [some (.ref 0), some (.ref 97), some (.int a), some (.int b), some (.int z), some (.int (nI n)), some (.int (nI 1 + nI l)), none, none, none, none, none, none, none] [.int (nI m), .int (b >>> (nI 4 &&& 31))] (hLL x y) := by
    intro m m0 m1 e
    refine zcallS hC0 (mL_up (b >>> (nI 4 &&& 31)) m m0 (by omega) (hLL x y)) vL_up lk5_27 (by decide +kernel : decode cL_isStep 583 = .ok (.invokestatic 27, 3)) rfl rfl (Nat.le_of_ble_eq_true rfl) (Nat.le_of_ble_eq_true rfl) (Nat.le_of_ble_eq_true rfl) ?_
    rw [e]
    refine zgo hC0 275 5 rfl ?_
    refine zcallS hC0 (mL_up (b >>> (nI 7 &&& 31)) 3 (by decide) (by decide) (hLL x y)) vL_up lk5_27 (by decide +kernel : decode cL_isStep 593 = .ok (.invokestatic 27, 3)) rfl rfl (Nat.le_of_ble_eq_true rfl) (Nat.le_of_ble_eq_true rfl) (Nat.le_of_ble_eq_true rfl) ?_
    rw [eu]
    refine zgo hC0 281 1 rfl ?_
    exact c598
  rcases et with ⟨c, e⟩ | ⟨c, e⟩
  · rw [c]
    refine And.intro (fun q => absurd rfl q) (fun _ => ?_)
    refine zgo hC0 271 2 rfl ?_
    exact c583 6 (by decide) (by decide) e
  · refine And.intro (fun _ => ?_) (fun q => absurd q (nI_ne0 (by omega) (by have := upn_lt z (m := 2) (by decide); omega)))
    refine zgo hC0 273 1 rfl ?_
    exact c583 2 (by decide) (by decide) e
