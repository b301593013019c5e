/-! RepealedLawsModel: read -/
theorem bN_le (b : Bool) : bN b ≤ 1 := by cases b <;> decide
theorem zPass_z (v : CV) (l t s : Int32) (n : Nat) : zPass v l t s n = (!zFull v && decide (zRA v l t s (zBR v l t s n) n = nI 0)) := rfl
set_option maxHeartbeats 2000000 in
set_option maxRecDepth 20000 in
theorem mX4_read_f (u : CV) (q : Nat) (h6 : u 6 0 = nI q) (hq : q ≤ 60) (hz : ¬ (zFl (zSg (u 5) q) q 21 0 0 (u 8)).1 = -(nI 6)) : ZM yX4_read cX4_read 7 (some .int) 5 121 [.ref 0] (hM u) (some (.int (-(nI 3)))) (hM (zsp u (nI (zFl (zSg (u 5) q) q 21 0 0 (u 8)).2.1) (nI (zFl (zSg (u 5) q) q 21 0 0 (u 8)).2.2.1) (zFl (zSg (u 5) q) q 21 0 0 (u 8)).2.2.2)) := by
  refine zm_of 4 qX4_read rfl rfl kX4_read rfl (Nat.le_of_ble_eq_true rfl) (fun C hC0 => ?_)
  refine zgo hC0 0 1 rfl ?_
  refine zcallV hC0 (mX4_fault u q h6 hq) vX4_fault lk4_194 (by decide +kernel : decode cX4_read 1 = .ok (.invokevirtual 194, 3)) rfl rfl rfl (Nat.le_of_ble_eq_true rfl) (Nat.le_of_ble_eq_true rfl) (Nat.le_of_ble_eq_true rfl) ?_
  generalize zFl (zSg (u 5) q) q 21 0 0 (u 8) = Z at hz hC0 ⊢
  refine zgo hC0 2 2 rfl ?_
  refine And.intro (fun c => absurd c hz) (fun _ => ?_)
  refine zgo hC0 4 2 rfl ?_
  exact zret_i rfl
set_option maxHeartbeats 2000000 in
set_option maxRecDepth 20000 in
theorem mX4_read_t (v u : CV) (k q n S : Nat) (hm : WM v n) (hl : WL v n) (hr : RM v (u 0)) (hk : k ≤ 6) (h2 : u 2 0 = nI k) (h6 : u 6 0 = nI q) (hq : q ≤ 60) (hS : v 10 0 = nI S) (hS2 : S + 100 < 2 ^ 31) (hz : (zFl (zSg (u 5) q) q 21 0 0 (u 8)).1 = -(nI 6)) : ZM yX4_read cX4_read 7 (some .int) 5 121 [.ref 0] (hM u) (some (.int (nI (zRd (u 5) q 21 0 v 0).2))) (hM (vup (vup (zcc (zsp u (nI (zFl (zSg (u 5) q) q 21 0 0 (u 8)).2.1) (nI (zFl (zSg (u 5) q) q 21 0 0 (u 8)).2.2.1) (zFl (zSg (u 5) q) q 21 0 0 (u 8)).2.2.2) k) 0 (zRa (u 5) q 21 0 v (u 0))) 6 (upd (u 6) 0 (nI 0)))) := by
  refine zm_of 4 qX4_read rfl rfl kX4_read rfl (Nat.le_of_ble_eq_true rfl) (fun C hC0 => ?_)
  obtain ⟨hR, hB⟩ := zFl_ok 21 0 0 (u 8) rfl (fun j hj => absurd hj (Nat.not_lt_zero j)) (by decide) hz hq
  refine zgo hC0 0 1 rfl ?_
  refine zcallV hC0 (mX4_fault u q h6 hq) vX4_fault lk4_194 (by decide +kernel : decode cX4_read 1 = .ok (.invokevirtual 194, 3)) rfl rfl rfl (Nat.le_of_ble_eq_true rfl) (Nat.le_of_ble_eq_true rfl) (Nat.le_of_ble_eq_true rfl) ?_
  rw [hz]
  generalize zFl (zSg (u 5) q) q 21 0 0 (u 8) = Z at hz hC0 hR hB ⊢
  generalize Z.2.2.1 = R at hC0 hR hB ⊢
  generalize Z.2.2.2 = B at hC0 hR hB ⊢
  generalize Z.2.1 = X at hC0 ⊢
  have hR20 : R ≤ 20 := by
    rcases Nat.lt_or_ge 20 R with c | c
    · have c1 := zgd_q (hB 20 c).1
      have c2 := zpo_ge (zSg (u 5) q) 20
      omega
    · exact c
  refine zgo hC0 2 2 rfl ?_
  refine And.intro (fun _ => ?_) (fun c => absurd rfl c)
  refine zgo hC0 6 1 rfl ?_
  refine zcallV hC0 (mX4_changes (zsp u (nI X) (nI R) B) k hk h2) vX4_changes lk4_100 (by decide +kernel : decode cX4_read 13 = .ok (.invokevirtual 100, 3)) rfl rfl rfl (Nat.le_of_ble_eq_true rfl) (Nat.le_of_ble_eq_true rfl) (Nat.le_of_ble_eq_true rfl) ?_
  obtain ⟨U, hU⟩ : ∃ U, U = zcc (zsp u (nI X) (nI R) B) k := ⟨_, rfl⟩
  obtain ⟨RR, hRR⟩ : ∃ RR, RR = zRd (u 5) q 21 0 v 0 := ⟨_, rfl⟩
  obtain ⟨AA, hAA⟩ : ∃ AA, AA = zRa (u 5) q 21 0 v (u 0) := ⟨_, rfl⟩
  rw [← hU, ← hRR, ← hAA] at hC0
  rw [← hU]
  have hU8 : U 8 = B := by rw [hU]; rfl
  have hU9 : U 9 0 = nI R := by rw [hU]; rfl
  rw [show hM U = hM (vup U 0 (u 0)) by rw [hU]; rfl]
  clear hU
  refine zgo hC0 8 4 rfl ?_
  refine zloop R (fun j => ∀ (v1 : CV) (a1 : Nat → Int32) (c n1 S1 f : Nat) (x y : Int32), WM v1 n1 → WL v1 n1 → RM v1 a1 → v1 10 0 = nI S1 → S1 ≤ S + j → q ≤ zpo (zSg (u 5) q) j + 3 * f → zRd (u 5) q f (zpo (zSg (u 5) q) j) v1 c = RR → zRa (u 5) q f (zpo (zSg (u 5) q) j) v1 a1 = AA → x = nI c → y = nI j → C 20 [some (.ref 0), some (.int x), some (.int y), none, none, none, none] [] (hM (vup U 0 a1))) ?_ ?_ v (u 0) 0 n S 21 _ _ hm hl hr hS (Nat.le_refl _) (by show q ≤ 0 + 3 * 21; omega) hRR.symm hAA.symm rfl rfl
  · rintro v1 a1 c n1 S1 f x y hm1 hl1 hr1 hS1 hS3 hf hz1 hz2 rfl rfl
    have e1 : zRd (u 5) q f (zpo (zSg (u 5) q) R) v1 c = (v1, c) := by
      cases f with
      | zero => rfl
      | succ f => rw [zRd, if_neg (by omega)]
    have e2 : zRa (u 5) q f (zpo (zSg (u 5) q) R) v1 a1 = a1 := by
      cases f with
      | zero => rfl
      | succ f => rw [zRa, if_neg (by omega)]
    refine zgo hC0 12 4 rfl ?_
    refine And.intro (fun _ => ?_) (fun (c1 : ¬ U 9 0 ≤ nI R) => absurd (by rw [hU9]; exact nI_le (Nat.le_refl R) (by omega)) c1)
    refine zgo hC0 87 5 rfl ?_
    rw [← hz1, ← hz2, e1, e2]
    exact ⟨rfl, rfl, rfl⟩
  · rintro j hj ih v1 a1 c n1 S1 f x y hm1 hl1 hr1 hS1 hS3 hf hz1 hz2 rfl rfl
    obtain ⟨hg, hBj⟩ := hB j hj
    obtain ⟨L, T, W, l1, l2, t2, w2, eL, eT, eW, eB⟩ := zBv_say hg
    have hq2 := zgd_q hg
    have hb1 := bN_le (decide (zSg (u 5) q (zpo (zSg (u 5) q) j + 3) = nI 33))
    have ej : (nI j).toNatClampNeg = j := nI_clamp (by omega)
    have hn1 := hm1.2
    have hp : zpo (zSg (u 5) q) (j + 1) = zpo (zSg (u 5) q) j + 3 + bN (decide (zSg (u 5) q (zpo (zSg (u 5) q) j + 3) = nI 33)) := rfl
    cases f with
    | zero => omega
    | succ f =>
    rw [zRd, if_pos hq2, eL, eT, eW] at hz1
    rw [zRa, if_pos hq2, eL, eT, eW] at hz2
    rw [eB] at hBj
    have at125 : ∀ (v2 : CV) (a2 : Nat → Int32) (c2 n2 : Nat) (o3 o4 o5 : Int32) (o6 : Option Value), WM v2 n2 → WL v2 n2 → RM v2 a2 → v2 10 0 = v1 10 0 → (if zSg (u 5) q (zpo (zSg (u 5) q) j + 3) = nI 33 then zRd (u 5) q f (zpo (zSg (u 5) q) j + 4) (zSe v2) c2 else zRd (u 5) q f (zpo (zSg (u 5) q) j + 3) v2 c2) = RR → (if zSg (u 5) q (zpo (zSg (u 5) q) j + 3) = nI 33 then zRa (u 5) q f (zpo (zSg (u 5) q) j + 4) (zSe v2) (upd a2 3 (v1 10 0 + nI 1)) else zRa (u 5) q f (zpo (zSg (u 5) q) j + 3) v2 a2) = AA → C 125 [some (.ref 0), some (.int (nI c2)), some (.int (nI j)), some (.int o3), some (.int o4), some (.int o5), o6] [] (hM (vup U 0 a2)) := by
      intro v2 a2 c2 n2 o3 o4 o5 o6 hm2 hl2 hr2 hs2 hy1 hy2
      refine zgo hC0 74 6 rfl ?_
      refine And.intro (vp_in_nI (N := 20) (by omega) (by decide)) ?_
      have eb : U 8 (nI j).toNatClampNeg = nI (100 * L + 10 * T + W + 1000 * bN (decide (zSg (u 5) q (zpo (zSg (u 5) q) j + 3) = nI 33))) := by rw [hU8, ej, hBj]
      cases h9 : decide (zSg (u 5) q (zpo (zSg (u 5) q) j + 3) = nI 33) with
      | true =>
        rw [h9] at hp eb
        rw [if_pos (of_decide_eq_true h9)] at hy1 hy2
        refine And.intro (fun (c1 : U 8 (nI j).toNatClampNeg < nI 1000) => absurd c1 (by rw [eb]; exact nI_nlt (by simp only [bN]; omega) (by simp only [bN]; omega))) (fun _ => ?_)
        refine zgo hC0 80 1 rfl ?_
        refine zcallV hC0 (mX4_ends v2 (vup U 0 a2) n2 hm2 hr2) vX4_ends lk4_126 (by decide +kernel : decode cX4_read 138 = .ok (.invokevirtual 126, 3)) rfl rfl rfl (Nat.le_of_ble_eq_true rfl) (Nat.le_of_ble_eq_true rfl) (Nat.le_of_ble_eq_true rfl) ?_
        refine zgo hC0 82 1 rfl ?_
        refine zgo hC0 84 2 rfl ?_
        refine zmask hC0 [true, true, true, false, false, false, false] ?_
        refine zgo hC0 86 1 rfl ?_
        refine ih (zSe v2) (upd a2 3 (v2 10 0 + nI 1)) c2 n2 (S1 + 1) f _ _ hm2 hl2 (RM_sess hr2) ?_ (by omega) (by rw [hp]; simp only [bN]; omega) (by rw [hp]; exact hy1) (by rw [hp, hs2]; exact hy2) rfl (nI_add j 1)
        show v2 10 0 + nI 1 = nI (S1 + 1)
        rw [hs2, hS1, nI_add]
      | false =>
        rw [h9] at hp eb
        rw [if_neg (of_decide_eq_false h9)] at hy1 hy2
        refine And.intro (fun _ => ?_) (fun (c1 : ¬ U 8 (nI j).toNatClampNeg < nI 1000) => absurd (by rw [eb]; exact nI_lt (by simp only [bN]; omega) (by omega)) c1)
        refine zgo hC0 83 3 rfl ?_
        refine zmask hC0 [true, true, true, false, false, false, false] ?_
        refine zgo hC0 86 1 rfl ?_
        exact ih v2 a2 c2 n2 S1 f _ _ hm2 hl2 hr2 (hs2.trans hS1) (by omega) (by rw [hp]; simp only [bN]; omega) (by rw [hp]; exact hy1) (by rw [hp]; exact hy2) rfl (nI_add j 1)
    have hmk := mk_eq hm1
    have fail : zPass v1 (nI L) (nI T) (nI W) n1 = false → C 115 [some (.ref 0), some (.int (nI c)), some (.int (nI j)), some (.int (nI L)), some (.int (nI T)), some (.int (nI W)), none] [] (hM (vup U 0 a1)) := by
      intro hP
      have r5 : a1 5 = v1 11 0 := hr1.2.2.2.1
      rw [zVo, zVc, hmk, hP] at hz1
      rw [zVo, zA1, hmk, hP] at hz2
      refine zgo hC0 66 8 rfl ?_
      refine And.intro z596 (And.intro z596 ?_)
      show C 125 _ [] (hM (vup U 0 (upd a1 5 (a1 5 + nI 1))))
      rw [r5]
      exact at125 (vup v1 11 (upd (v1 11) 0 (v1 11 0 + nI 1))) (upd a1 5 (v1 11 0 + nI 1)) c n1 _ _ _ _ hm1 hl1 (RM_fail hr1) rfl hz1 hz2
    have r4 : a1 4 = v1 9 0 := hr1.2.2.1
    refine zgo hC0 12 4 rfl ?_
    refine And.intro (fun (c1 : U 9 0 ≤ nI j) => absurd c1 (by rw [hU9]; exact nI_ge hj (by omega))) (fun _ => ?_)
    generalize hbb : 100 * L + 10 * T + W + 1000 * bN (decide (zSg (u 5) q (zpo (zSg (u 5) q) j + 3) = nI 33)) = bb at hBj
    have i1 : nI bb / nI 100 - nI bb / nI 100 / nI 10 * nI 10 = nI L := by
      rw [pk_div (by omega) (by decide) (by decide), pk_rem (by omega) (by decide) (by decide)]
      congr 1
      omega
    have i2 : nI bb / nI 10 - nI bb / nI 10 / nI 10 * nI 10 = nI T := by
      rw [pk_div (by omega) (by decide) (by decide), pk_rem (by omega) (by decide) (by decide)]
      congr 1
      omega
    have i3 : nI bb - nI bb / nI 10 * nI 10 = nI W := by
      rw [pk_rem (by omega) (by decide) (by decide)]
      congr 1
      omega
    have eb : U 8 (nI j).toNatClampNeg = nI bb := by rw [hU8, ej, hBj]
    have hin : vp_in (nI j) 20 := vp_in_nI (N := 20) (by omega) (by decide)
    refine zgo hC0 16 25 rfl ?_
    refine And.intro hin (And.intro (by decide) (And.intro (by decide) (And.intro hin (And.intro (by decide) (And.intro (by decide) (And.intro hin (And.intro (by decide) ?_)))))))
    show C 66 [some (.ref 0), some (.int (nI c)), some (.int (nI j)), some (.int (U 8 (nI j).toNatClampNeg / nI 100 - U 8 (nI j).toNatClampNeg / nI 100 / nI 10 * nI 10)), some (.int (U 8 (nI j).toNatClampNeg / nI 10 - U 8 (nI j).toNatClampNeg / nI 10 / nI 10 * nI 10)), some (.int (U 8 (nI j).toNatClampNeg - U 8 (nI j).toNatClampNeg / nI 10 * nI 10)), none] [] (hM (vup U 0 a1))
    rw [eb, i1, i2, i3]
    refine zgo hC0 41 6 rfl ?_
    refine And.intro z596 (And.intro (fun (c1 : nI 80 ≤ a1 4) => ?_) (fun (c1 : ¬ nI 80 ≤ a1 4) => ?_))
    · rw [r4] at c1
      exact fail (by rw [zPass_z, zFull, decide_eq_true (Int32.not_lt.mpr c1)]; rfl)
    · rw [r4] at c1
      have hF : zFull v1 = false := by rw [zFull]; exact decide_eq_false (fun z => z (Int32.not_le.mp c1))
      refine zgo hC0 47 4 rfl ?_
      refine zcallV hC0 (mX4_wouldPass v1 (vup U 0 a1) (nI L) T (nI W) n1 t2 hm1 hl1 hr1) vX4_wouldPass lk4_165 (by decide +kernel : decode cX4_read 83 = .ok (.invokevirtual 165, 3)) rfl rfl rfl (Nat.le_of_ble_eq_true rfl) (Nat.le_of_ble_eq_true rfl) (Nat.le_of_ble_eq_true rfl) ?_
      refine zgo hC0 52 1 rfl ?_
      refine And.intro (fun c2 => fail (by rw [zPass_z, b2i_f c2, Bool.and_false])) (fun c2 => ?_)
      have hP : zPass v1 (nI L) (nI T) (nI W) n1 = true := by rw [zPass_z, hF, b2i_t c2]; rfl
      have hnn := zPass_n hm1 hP
      rw [zVo, zVc, hmk, hP] at hz1
      rw [zVo, zA1, hmk, hP] at hz2
      refine zgo hC0 53 8 rfl ?_
      refine zcallV hC0 (mX4_best v1 (vup U 0 a1) (nI L) T (nI W) n1 t2 hm1 hl1 hr1) vX4_best lk4_162 (by decide +kernel : decode cX4_read 101 = .ok (.invokevirtual 162, 3)) rfl rfl rfl (Nat.le_of_ble_eq_true rfl) (Nat.le_of_ble_eq_true rfl) (Nat.le_of_ble_eq_true rfl) ?_
      refine zcallV hC0 (mX4_passes v1 (vup U 0 a1) (nI L) (nI T) (nI W) (zBR v1 (nI L) (nI T) (nI W) n1) n1 hm1 hnn hr1 (zBR_nm _ _ _ _ _)) vX4_passes lk4_123 (by decide +kernel : decode cX4_read 104 = .ok (.invokevirtual 123, 3)) rfl rfl rfl (Nat.le_of_ble_eq_true rfl) (Nat.le_of_ble_eq_true rfl) (Nat.le_of_ble_eq_true rfl) ?_
      refine zgo hC0 63 3 rfl ?_
      show C 125 [some (.ref 0), some (.int (nI c + nI 1)), some (.int (nI j)), some (.int (nI L)), some (.int (nI T)), some (.int (nI W)), some (.int (nI n1))] [] (hM (vup U 0 (zpx a1 n1 (nI L) (nI T) (nI W) (v1 10 0) (zBR v1 (nI L) (nI T) (nI W) n1))))
      rw [nI_add]
      exact at125 (zEN v1 (nI L) (nI T) (nI W) (zBR v1 (nI L) (nI T) (nI W) n1) n1) _ (c + 1) (n1 + 1) _ _ _ _ (WM_EN hnn) (WL_EN hnn hl1 (by rw [hS1]; exact nI_nn (by omega)) ⟨L, l1, l2, rfl⟩ ⟨T, t2, rfl⟩ ⟨W, w2, rfl⟩) (RM_px hr1 hm1 hnn _ _ _ (zBR_nm _ _ _ _ _)) (zEN_10 _ _ _ _ _ _) hz1 hz2
