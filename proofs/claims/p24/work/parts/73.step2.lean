/-! isStep: repeal, endSession, undo, save, restore -/
set_option maxHeartbeats 2000000 in
set_option maxRecDepth 20000 in
theorem s_repeal {S : Nat} {x y : ZX} (hS0 : S < 2 ^ 20) (h : RR S x y) (a b z : Int32) : ∃ x2 y2, RR S x2 y2 ∧ ∃ n, WM x.v n ∧ SG x y x2 y2 264 (sS a b z n) := by
  obtain ⟨⟨e1, e2, e3, e4, e5, e6⟩, ⟨n, s, hG, hM⟩, hH, hV⟩ := id h
  have hm := hG.1
  have hn := hm.2
  obtain ⟨j, hj, ej⟩ : ∃ j, j < n + 1 ∧ upn z (n + 1) = j := ⟨_, upn_lt z (by omega), rfl⟩
  have go : ∀ (x2 y2 : ZX) (made told : Int32), ZM yX3_law cX3_law 3 (some .int) 4 88 [.ref 0, .int (nI j), .int (nI 3)] x.h (some (.int made)) x.h → ZM yX3_repeal cX3_repeal 2 (some .int) 3 90 [.ref 0, .int (nI j)] x.h (some (.int told)) x2.h → ZM yX3_repeal cX3_repeal 2 (some .int) 3 90 [.ref 0, .int (nI j)] y.h (some (.int told)) y2.h → (∀ C : ZP, zR 5 cL_isStep qL_isStep 14 8 188 (zR1 (some .boolean) (some (.int (b2i true))) (hLL x2 y2)) (zR0 (some .boolean) (some (.int (b2i true))) (hLL x2 y2)) C → C 362 [some (.ref 0), some (.ref 97), some (.int a), some (.int b), some (.int z), some (.int (nI n)), some (.int (nI j)), some (.int made), some (.int told), none, none, none, none, none] [] (hLL x2 y2) → C 303 [some (.ref 0), some (.ref 97), some (.int a), some (.int b), some (.int z), some (.int (nI n)), some (.int (nI j)), some (.int made), some (.int told), none, none, none, none, none] [] (hLL x2 y2)) → SG x y x2 y2 264 (sS a b z n) := by
    intro x2 y2 made told h1 h2 h3 h4 C hC0
    refine zgo hC0 109 4 rfl ?_
    have e9 : nI n + nI 1 = nI (n + 1) := nI_add n 1
    have hu := mL_up z (n + 1) (by omega) (by omega) (hLL x y)
    rw [ej, ← e9] at hu
    refine zcallS hC0 hu vL_up lk5_27 (by decide +kernel : decode cL_isStep 270 = .ok (.invokestatic 27, 3)) rfl rfl (Nat.le_of_ble_eq_true rfl) (Nat.le_of_ble_eq_true rfl) (Nat.le_of_ble_eq_true rfl) ?_
    refine zgo hC0 114 4 rfl ?_
    refine zcallVb (sg := zbl 0 97) hC0 h1 (lSBo _ _ _) lnd1 (Nat.le_of_ble_eq_true rfl) vX3_law lk5_56 (by decide +kernel : decode cL_isStep 279 = .ok (.invokevirtual 56, 3)) rfl rfl rfl (Nat.le_of_ble_eq_true rfl) (Nat.le_of_ble_eq_true rfl) (Nat.le_of_ble_eq_true rfl) ?_
    refine zgo hC0 119 3 rfl ?_
    refine zcallVb (sg := zbl 0 97) hC0 h2 (lSBo _ _ _) lnd1 (Nat.le_of_ble_eq_true rfl) vX3_repeal lk5_59 (by decide +kernel : decode cL_isStep 287 = .ok (.invokevirtual 59, 3)) rfl rfl rfl (Nat.le_of_ble_eq_true rfl) (Nat.le_of_ble_eq_true rfl) (Nat.le_of_ble_eq_true rfl) ?_
    refine zgo hC0 123 4 rfl ?_
    refine zcallVb (sg := zbl 97 97) hC0 h3 (lSBp _ _ _) lnd2 (Nat.le_of_ble_eq_true rfl) vX3_repeal lk5_59 (by decide +kernel : decode cL_isStep 297 = .ok (.invokevirtual 59, 3)) rfl rfl rfl (Nat.le_of_ble_eq_true rfl) (Nat.le_of_ble_eq_true rfl) (Nat.le_of_ble_eq_true rfl) ?_
    refine zgo hC0 128 1 rfl ?_
    refine And.intro (fun c => absurd (rfl) c) (fun _ => ?_)
    refine h4 C hC0 ?_
    refine zgo hC0 157 2 rfl ?_
    refine zgo hC0 160 1 rfl ?_
    exact zret_b rfl
  have ne5 : ∀ k : Nat, k < n → ¬ nI k = nI n := fun k hk q => by
    have := (nI_eq (by omega) (by omega)).mp q
    omega
  by_cases c : j = n
  · subst c
    have l1 : zL x.v (nI j) = false := zL_no2 (by rw [hm.1]; exact Int32.le_refl _)
    have f1 : zF x.v (nI j) = false := by rw [zF, l1]; rfl
    have l2 : zL y.v (nI j) = false := (mr_zL hM _).trans l1
    have f2 : zF y.v (nI j) = false := (mr_zF hM hm _).trans f1
    have r1 := o_rep_f x (nI j) hm f1
    have r2 := o_rep_f y (nI j) (mr_WM hM hm) f2
    rw [l1] at r1
    rw [l2] at r2
    refine ⟨x, y, h, j, hm, go x y (-(nI 1)) (-(nI 1)) (o_lawn x l1 (nI 3) hm) r1 r2 (fun C hC0 k => ?_)⟩
    refine zgo hC0 129 3 rfl ?_
    refine And.intro (fun c => absurd (rfl) c) (fun _ => ?_)
    refine zgo hC0 132 3 rfl ?_
    refine And.intro (fun c => absurd (rfl) c) (fun _ => ?_)
    refine zgo hC0 135 1 rfl ?_
    exact k
  · have hj2 : j < n := by omega
    have l1 : zL x.v (nI j) = true := zL_at hm hj2
    have l2 : zL y.v (nI j) = true := (mr_zL hM _).trans l1
    cases f : iF x.v j with
    | false =>
      have f1 : zF x.v (nI j) = false := (zF_at hm hj2).trans f
      have f2 : zF y.v (nI j) = false := (mr_zF hM hm _).trans f1
      have r1 := o_rep_f x (nI j) hm f1
      have r2 := o_rep_f y (nI j) (mr_WM hM hm) f2
      rw [l1] at r1
      rw [l2] at r2
      refine ⟨x, y, h, n, hm, go x y (x.v 5 j) (-(nI 5)) (o_lawf x hj2 (j := 3) (by decide) hm) r1 r2 (fun C hC0 k => ?_)⟩
      refine zgo hC0 129 3 rfl ?_
      refine And.intro (fun _ => ?_) (fun c => absurd c (ne5 j hj2))
      refine zgo hC0 136 2 rfl ?_
      refine And.intro (fun c => absurd c (by decide)) (fun _ => ?_)
      refine zgo hC0 138 3 rfl ?_
      refine And.intro (fun c => absurd (rfl) c) (fun _ => ?_)
      refine zgo hC0 141 1 rfl ?_
      exact k
    | true =>
      have f1 : zF x.v (nI j) = true := (zF_at hm hj2).trans f
      have f2 : zF y.v (nI j) = true := (mr_zF hM hm _).trans f1
      have r1 := o_rep_t x (nI j) hm e3 e4 f1
      have r2 := o_rep_t y (nI j) (mr_WM hM hm) (by rw [← e1]; exact e3) (by rw [← e2]; exact e4) f2
      obtain ⟨⟨m, m1, m2, m3⟩, -⟩ := hG.2.2.2.2 j hj2
      have hs := hG.2.2.1
      have hsS := hG.2.2.2.1
      rw [zcl hn hj2] at r1 r2
      rw [hM.2.2.2.2.1, (hM.2.2.1 j hj2).2.2.2.1] at r2
      have et : x.v 10 0 - x.v 5 j = nI (s - m) := by rw [hs, m2, pk_sub m1]
      rw [et] at r1 r2
      refine ⟨x.rem (zEL x.v (nI j) (-(nI 6))), y.rem (zEL y.v (nI j) (-(nI 6))), RR_rem h (Nat.le_refl S) ⟨n, s, GW_EL hG (by omega) hj2 f, mr_EL hM hm hj2 _⟩, n, hm, go _ _ (x.v 5 j) (nI (s - m)) (o_lawf x hj2 (j := 3) (by decide) hm) r1 r2 (fun C hC0 k => ?_)⟩
      have hm2 : WM (x.rem (zEL x.v (nI j) (-(nI 6)))).v n := WM_EL hm
      refine zgo hC0 129 3 rfl ?_
      refine And.intro (fun _ => ?_) (fun c => absurd c (ne5 j hj2))
      refine zgo hC0 136 2 rfl ?_
      refine And.intro (fun _ => ?_) (fun c => absurd (nI_pos' (by omega)) c)
      refine zgo hC0 142 3 rfl ?_
      refine zcallVb (sg := zbl 0 97) hC0 (o_count (x.rem (zEL x.v (nI j) (-(nI 6)))) (j := 3) (by decide) hm2) (lSBo _ _ _) lnd1 (Nat.le_of_ble_eq_true rfl) vX3_count lk5_33 (by decide +kernel : decode cL_isStep 338 = .ok (.invokevirtual 33, 3)) rfl rfl rfl (Nat.le_of_ble_eq_true rfl) (Nat.le_of_ble_eq_true rfl) (Nat.le_of_ble_eq_true rfl) ?_
      refine zgo hC0 146 3 rfl ?_
      refine And.intro (fun c => absurd ?_ c) (fun _ => ?_)
      · show nI (s - m) = zEL x.v (nI j) (-(nI 6)) 10 0 - x.v 5 j
        rw [zEL_10, et]
      refine zgo hC0 149 3 rfl ?_
      refine zcallVb (sg := zbl 0 97) hC0 (o_lawf (x.rem (zEL x.v (nI j) (-(nI 6)))) hj2 (j := 4) (by decide) hm2) (lSBo _ _ _) lnd1 (Nat.le_of_ble_eq_true rfl) vX3_law lk5_56 (by decide +kernel : decode cL_isStep 351 = .ok (.invokevirtual 56, 3)) rfl rfl rfl (Nat.le_of_ble_eq_true rfl) (Nat.le_of_ble_eq_true rfl) (Nat.le_of_ble_eq_true rfl) ?_
      refine zgo hC0 153 2 rfl ?_
      refine zcallVb (sg := zbl 0 97) hC0 (o_count (x.rem (zEL x.v (nI j) (-(nI 6)))) (j := 3) (by decide) hm2) (lSBo _ _ _) lnd1 (Nat.le_of_ble_eq_true rfl) vX3_count lk5_33 (by decide +kernel : decode cL_isStep 356 = .ok (.invokevirtual 33, 3)) rfl rfl rfl (Nat.le_of_ble_eq_true rfl) (Nat.le_of_ble_eq_true rfl) (Nat.le_of_ble_eq_true rfl) ?_
      refine zgo hC0 156 1 rfl ?_
      refine And.intro (fun c => absurd ?_ c) (fun _ => k)
      show zEL x.v (nI j) (-(nI 6)) 6 j = zEL x.v (nI j) (-(nI 6)) 10 0
      rw [zEL_10, zEL_eq hm hj2]
      exact upd_at
set_option maxHeartbeats 2000000 in
set_option maxRecDepth 20000 in
theorem s_end {S : Nat} {x y : ZX} (h : RR S x y) (a b z : Int32) : ∃ x2 y2, RR (S + 1) x2 y2 ∧ ∃ n, WM x.v n ∧ SG x y x2 y2 368 (sS a b z n) := by
  obtain ⟨⟨e1, e2, e3, e4, e5, e6⟩, ⟨n, s, hG, hM⟩, hH, hV⟩ := id h
  have hm := hG.1
  have hn := hm.2
  refine ⟨x.rem (zSe x.v), y.rem (zSe y.v), RR_rem h (Nat.le_succ S) ⟨n, s + 1, GW_se hG, mr_se hM⟩, n, hm, fun C hC0 => ?_⟩
  refine zgo hC0 161 2 rfl ?_
  refine zcallVb (sg := zbl 0 97) hC0 (o_count x (j := 3) (by decide) hm) (lSBo _ _ _) lnd1 (Nat.le_of_ble_eq_true rfl) vX3_count lk5_33 (by decide +kernel : decode cL_isStep 370 = .ok (.invokevirtual 33, 3)) rfl rfl rfl (Nat.le_of_ble_eq_true rfl) (Nat.le_of_ble_eq_true rfl) (Nat.le_of_ble_eq_true rfl) ?_
  refine zgo hC0 164 5 rfl ?_
  refine zloop n (fun i => ∀ c k : Int32, c = nI (cnt (iM x.v) i) → k = nI i → C 381 [some (.ref 0), some (.ref 97), some (.int a), some (.int b), some (.int z), some (.int (nI n)), some (.int (x.v 10 0)), some (.int c), some (.int k), none, none, none, none, none] [] (hLL x y)) ?_ ?_ _ _ rfl rfl
  · rintro c k rfl rfl
    refine zgo hC0 169 3 rfl ?_
    refine And.intro (fun _ => ?_) (fun c => absurd (Int32.le_refl _) c)
    refine zgo hC0 186 1 rfl ?_
    refine zcallVb (sg := zbl 0 97) hC0 (o_end x hm e3 e4) (lSBo _ _ _) lnd1 (Nat.le_of_ble_eq_true rfl) vX3_endSession lk5_62 (by decide +kernel : decode cL_isStep 417 = .ok (.invokevirtual 62, 3)) rfl rfl rfl (Nat.le_of_ble_eq_true rfl) (Nat.le_of_ble_eq_true rfl) (Nat.le_of_ble_eq_true rfl) ?_
    refine zgo hC0 188 2 rfl ?_
    refine And.intro (fun c => absurd (rfl) c) (fun _ => ?_)
    refine zgo hC0 190 1 rfl ?_
    refine zcallVb (sg := zbl 97 97) hC0 (o_end y (mr_WM hM hm) (by rw [← e1]; exact e3) (by rw [← e2]; exact e4)) (lSBp _ _ _) lnd2 (Nat.le_of_ble_eq_true rfl) vX3_endSession lk5_62 (by decide +kernel : decode cL_isStep 426 = .ok (.invokevirtual 62, 3)) rfl rfl rfl (Nat.le_of_ble_eq_true rfl) (Nat.le_of_ble_eq_true rfl) (Nat.le_of_ble_eq_true rfl) ?_
    refine zgo hC0 192 2 rfl ?_
    refine And.intro (fun c => absurd (by rw [mr_iM hM]) c) (fun _ => ?_)
    refine zgo hC0 194 2 rfl ?_
    refine zcallVb (sg := zbl 0 97) hC0 (o_count (x.rem (zSe x.v)) (n := n) (j := 3) (by decide) hm) (lSBo _ _ _) lnd1 (Nat.le_of_ble_eq_true rfl) vX3_count lk5_33 (by decide +kernel : decode cL_isStep 436 = .ok (.invokevirtual 33, 3)) rfl rfl rfl (Nat.le_of_ble_eq_true rfl) (Nat.le_of_ble_eq_true rfl) (Nat.le_of_ble_eq_true rfl) ?_
    refine zgo hC0 197 4 rfl ?_
    refine And.intro (fun c => absurd (show upd (x.v 10) 0 (x.v 10 0 + nI 1) 0 = x.v 10 0 + nI 1 from upd_at) c) (fun _ => ?_)
    refine zgo hC0 201 2 rfl ?_
    refine zgo hC0 204 1 rfl ?_
    exact zret_b rfl
  · rintro i hi ih c k rfl rfl
    refine zgo hC0 169 3 rfl ?_
    refine And.intro (fun c => absurd c (nI_ge hi (by omega))) (fun _ => ?_)
    refine zgo hC0 172 4 rfl ?_
    refine zcallVb (sg := zbl 0 97) hC0 (o_lawf x hi (j := 3) (by decide) hm) (lSBo _ _ _) lnd1 (Nat.le_of_ble_eq_true rfl) vX3_law lk5_56 (by decide +kernel : decode cL_isStep 394 = .ok (.invokevirtual 56, 3)) rfl rfl rfl (Nat.le_of_ble_eq_true rfl) (Nat.le_of_ble_eq_true rfl) (Nat.le_of_ble_eq_true rfl) ?_
    refine zgo hC0 177 2 rfl ?_
    refine And.intro (fun (c : ¬ x.v 5 i = x.v 10 0) => ?_) (fun (c : x.v 5 i = x.v 10 0) => ?_)
    · refine zgo hC0 181 5 rfl ?_
      refine ih _ _ ?_ (nI_add i 1)
      rw [← cnt_f (decide_eq_false c)]
      exact Int32.add_zero _
    · refine zgo hC0 179 2 rfl ?_
      refine zgo hC0 182 4 rfl ?_
      exact ih _ _ (cnt_t (decide_eq_true c)) (nI_add i 1)
set_option maxHeartbeats 2000000 in
set_option maxRecDepth 20000 in
theorem s_undo {S : Nat} {x y : ZX} (h : RR S x y) (a b z : Int32) (L : Nat) : ∃ x2 y2, RR S x2 y2 ∧ SG x y x2 y2 452 (sS a b z L) := by
  obtain ⟨⟨e1, e2, e3, e4, e5, e6⟩, ⟨n, s, hG, hM⟩, hH, hV⟩ := id h
  have hm := hG.1
  by_cases c : x.k = 0
  · refine ⟨x, y, h, fun C hC0 => ?_⟩
    refine zgo hC0 205 2 rfl ?_
    refine zcallVb (sg := zbl 0 97) hC0 (o_count x (j := 13) (by decide) hm) (lSBo _ _ _) lnd1 (Nat.le_of_ble_eq_true rfl) vX3_count lk5_33 (by decide +kernel : decode cL_isStep 455 = .ok (.invokevirtual 33, 3)) rfl rfl rfl (Nat.le_of_ble_eq_true rfl) (Nat.le_of_ble_eq_true rfl) (Nat.le_of_ble_eq_true rfl) ?_
    refine zgo hC0 208 1 rfl ?_
    refine And.intro (fun _ => ?_) (fun q => absurd ?_ q)
    · refine zgo hC0 214 2 rfl ?_
      refine zgo hC0 217 1 rfl ?_
      exact zret_b rfl
    · show nI x.k = 0
      rw [c]
      rfl
  · obtain ⟨k, hk⟩ : ∃ k, x.k = k + 1 := ⟨x.k - 1, by omega⟩
    have hky : y.k = k + 1 := e2.symm.trans hk
    have ho : y.o < 6 := by rw [← e1]; exact e3
    refine ⟨(x.hv ((x.o + k) % 6), x.hv, x.o, k, x.sv, x.fl, x.ps, x.q), (y.hv ((y.o + k) % 6), y.hv, y.o, k, y.sv, y.fl, y.ps, y.q), ⟨⟨e1, rfl, e3, by show k ≤ 6; omega, e5, e6⟩, ?_, fun j hj => hH j (by have : j < k := hj; omega), hV⟩, fun C hC0 => ?_⟩
    · show GG S (x.hv ((x.o + k) % 6)) (y.hv ((y.o + k) % 6))
      rw [← e1]
      exact hH k (by omega)
    · refine zgo hC0 205 2 rfl ?_
      refine zcallVb (sg := zbl 0 97) hC0 (o_count x (j := 13) (by decide) hm) (lSBo _ _ _) lnd1 (Nat.le_of_ble_eq_true rfl) vX3_count lk5_33 (by decide +kernel : decode cL_isStep 455 = .ok (.invokevirtual 33, 3)) rfl rfl rfl (Nat.le_of_ble_eq_true rfl) (Nat.le_of_ble_eq_true rfl) (Nat.le_of_ble_eq_true rfl) ?_
      refine zgo hC0 208 1 rfl ?_
      refine And.intro (fun (q : nI x.k = 0) => absurd q (nI_ne0 (by omega) (by omega))) (fun _ => ?_)
      refine zgo hC0 209 1 rfl ?_
      refine zcallVb (sg := zbl 0 97) hC0 (o_undo x hk e3 (by omega)) (lSBo _ _ _) lnd1 (Nat.le_of_ble_eq_true rfl) vX3_undo lk5_65 (by decide +kernel : decode cL_isStep 462 = .ok (.invokevirtual 65, 3)) rfl rfl rfl (Nat.le_of_ble_eq_true rfl) (Nat.le_of_ble_eq_true rfl) (Nat.le_of_ble_eq_true rfl) ?_
      refine zgo hC0 211 1 rfl ?_
      refine zcallVb (sg := zbl 97 97) hC0 (o_undo y hky ho (by omega)) (lSBp _ _ _) lnd2 (Nat.le_of_ble_eq_true rfl) vX3_undo lk5_65 (by decide +kernel : decode cL_isStep 466 = .ok (.invokevirtual 65, 3)) rfl rfl rfl (Nat.le_of_ble_eq_true rfl) (Nat.le_of_ble_eq_true rfl) (Nat.le_of_ble_eq_true rfl) ?_
      refine zgo hC0 213 1 rfl ?_
      refine And.intro (fun c => absurd (rfl) c) (fun _ => ?_)
      refine zgo hC0 214 2 rfl ?_
      refine zgo hC0 217 1 rfl ?_
      exact zret_b rfl
theorem RR_save {S : Nat} {x y : ZX} (h : RR S x y) (j : Nat) : RR S (x.v, x.hv, x.o, x.k, hup x.sv j x.v, upd x.fl j (nI 1), x.ps, x.q) (y.v, y.hv, y.o, y.k, hup y.sv j y.v, upd y.fl j (nI 1), y.ps, y.q) := by
  obtain ⟨h1, hG, hH, hV⟩ := h
  refine ⟨h1, hG, hH, fun i hi => ?_⟩
  show (upd x.fl j (nI 1) i = nI 0 ∧ upd y.fl j (nI 1) i = nI 0) ∨ (upd x.fl j (nI 1) i = nI 1 ∧ upd y.fl j (nI 1) i = nI 1 ∧ GG S (hup x.sv j x.v i) (hup y.sv j y.v i))
  by_cases e : i = j
  · subst e
    rw [upd_at, upd_at, hup_at, hup_at]
    exact Or.inr ⟨rfl, rfl, hG⟩
  · rw [upd_ne e, upd_ne e, hup_ne e, hup_ne e]
    exact hV i hi
set_option maxHeartbeats 2000000 in
set_option maxRecDepth 20000 in
theorem s_slot {S : Nat} {x y : ZX} (h : RR S x y) (a b z : Int32) (L : Nat) : ∃ x2 y2, RR S x2 y2 ∧ SG x y x2 y2 478 (sS a b z L) := by
  obtain ⟨⟨e1, e2, e3, e4, e5, e6⟩, ⟨n, s, hG, hM⟩, hH, hV⟩ := id h
  have hm := hG.1
  have ho : y.o < 6 := by rw [← e1]; exact e3
  have hk : y.k ≤ 6 := by rw [← e2]; exact e4
  obtain ⟨i, hi, ei⟩ : ∃ i, i < 2 ∧ upn b 2 = i := ⟨_, upn_lt b (by decide), rfl⟩
  obtain ⟨j, hj, ej⟩ : ∃ j, j < 2 ∧ upn z 2 = j := ⟨_, upn_lt z (by decide), rfl⟩
  rcases (show i = 0 ∨ i = 1 by omega) with rfl | rfl
  · refine ⟨_, _, RR_save h j, fun C hC0 => ?_⟩
    refine zgo hC0 218 2 rfl ?_
    refine zcallS hC0 (mL_up b 2 (by decide) (by decide) (hLL x y)) vL_up lk5_27 (by decide +kernel : decode cL_isStep 480 = .ok (.invokestatic 27, 3)) rfl rfl (Nat.le_of_ble_eq_true rfl) (Nat.le_of_ble_eq_true rfl) (Nat.le_of_ble_eq_true rfl) ?_
    rw [ei]
    refine zgo hC0 221 1 rfl ?_
    refine And.intro (fun c => absurd (rfl) c) (fun _ => ?_)
    refine zgo hC0 222 3 rfl ?_
    refine zcallS hC0 (mL_up z 2 (by decide) (by decide) (hLL x y)) vL_up lk5_27 (by decide +kernel : decode cL_isStep 490 = .ok (.invokestatic 27, 3)) rfl rfl (Nat.le_of_ble_eq_true rfl) (Nat.le_of_ble_eq_true rfl) (Nat.le_of_ble_eq_true rfl) ?_
    rw [ej]
    refine zcallVb (sg := zbl 0 97) hC0 (o_save x hj hm) (lSBo _ _ _) lnd1 (Nat.le_of_ble_eq_true rfl) vX3_save lk5_68 (by decide +kernel : decode cL_isStep 493 = .ok (.invokevirtual 68, 3)) rfl rfl rfl (Nat.le_of_ble_eq_true rfl) (Nat.le_of_ble_eq_true rfl) (Nat.le_of_ble_eq_true rfl) ?_
    refine zgo hC0 227 3 rfl ?_
    refine zcallS hC0 (mL_up z 2 (by decide) (by decide) _) vL_up lk5_27 (by decide +kernel : decode cL_isStep 500 = .ok (.invokestatic 27, 3)) rfl rfl (Nat.le_of_ble_eq_true rfl) (Nat.le_of_ble_eq_true rfl) (Nat.le_of_ble_eq_true rfl) ?_
    rw [ej]
    refine zcallVb (sg := zbl 97 97) hC0 (o_save y hj (mr_WM hM hm)) (lSBp _ _ _) lnd2 (Nat.le_of_ble_eq_true rfl) vX3_save lk5_68 (by decide +kernel : decode cL_isStep 503 = .ok (.invokevirtual 68, 3)) rfl rfl rfl (Nat.le_of_ble_eq_true rfl) (Nat.le_of_ble_eq_true rfl) (Nat.le_of_ble_eq_true rfl) ?_
    refine zgo hC0 232 1 rfl ?_
    refine And.intro (fun c => absurd (by rw [mr_cIF hM]) c) (fun _ => ?_)
    refine zgo hC0 233 2 rfl ?_
    refine zgo hC0 251 1 rfl ?_
    exact zret_b rfl
  · have go : ∀ (x2 y2 : ZX) (told : Int32), ZM yX3_restore cX3_restore 2 (some .int) 3 90 [.ref 0, .int (nI j)] x.h (some (.int told)) x2.h → ZM yX3_restore cX3_restore 2 (some .int) 3 90 [.ref 0, .int (nI j)] y.h (some (.int told)) y2.h → SG x y x2 y2 478 (sS a b z L) := by
      intro x2 y2 told h1 h2 C hC0
      refine zgo hC0 218 2 rfl ?_
      refine zcallS hC0 (mL_up b 2 (by decide) (by decide) (hLL x y)) vL_up lk5_27 (by decide +kernel : decode cL_isStep 480 = .ok (.invokestatic 27, 3)) rfl rfl (Nat.le_of_ble_eq_true rfl) (Nat.le_of_ble_eq_true rfl) (Nat.le_of_ble_eq_true rfl) ?_
      rw [ei]
      refine zgo hC0 221 1 rfl ?_
      refine And.intro (fun _ => ?_) (fun c => absurd c (by decide))
      refine zgo hC0 237 3 rfl ?_
      refine zcallS hC0 (mL_up z 2 (by decide) (by decide) (hLL x y)) vL_up lk5_27 (by decide +kernel : decode cL_isStep 521 = .ok (.invokestatic 27, 3)) rfl rfl (Nat.le_of_ble_eq_true rfl) (Nat.le_of_ble_eq_true rfl) (Nat.le_of_ble_eq_true rfl) ?_
      rw [ej]
      refine zcallVb (sg := zbl 0 97) hC0 h1 (lSBo _ _ _) lnd1 (Nat.le_of_ble_eq_true rfl) vX3_restore lk5_71 (by decide +kernel : decode cL_isStep 524 = .ok (.invokevirtual 71, 3)) rfl rfl rfl (Nat.le_of_ble_eq_true rfl) (Nat.le_of_ble_eq_true rfl) (Nat.le_of_ble_eq_true rfl) ?_
      refine zgo hC0 242 3 rfl ?_
      refine zcallS hC0 (mL_up z 2 (by decide) (by decide) _) vL_up lk5_27 (by decide +kernel : decode cL_isStep 531 = .ok (.invokestatic 27, 3)) rfl rfl (Nat.le_of_ble_eq_true rfl) (Nat.le_of_ble_eq_true rfl) (Nat.le_of_ble_eq_true rfl) ?_
      rw [ej]
      refine zcallVb (sg := zbl 97 97) hC0 h2 (lSBp _ _ _) lnd2 (Nat.le_of_ble_eq_true rfl) vX3_restore lk5_71 (by decide +kernel : decode cL_isStep 534 = .ok (.invokevirtual 71, 3)) rfl rfl rfl (Nat.le_of_ble_eq_true rfl) (Nat.le_of_ble_eq_true rfl) (Nat.le_of_ble_eq_true rfl) ?_
      refine zgo hC0 247 1 rfl ?_
      refine And.intro (fun c => absurd (rfl) c) (fun _ => ?_)
      refine zgo hC0 248 2 rfl ?_
      refine zgo hC0 251 1 rfl ?_
      exact zret_b rfl
    rcases hV j hj with ⟨f1, f2⟩ | ⟨f1, f2, n2, s2, hG2, hM2⟩
    · exact ⟨x, y, h, go x y _ (o_rest_g x hj f1) (o_rest_g y hj f2)⟩
    · have r2 := o_rest_t y hj (mr_WM hM2 hG2.1) ho hk (by rw [f2]; decide)
      rw [mr_cIF hM2] at r2
      exact ⟨x.rem (x.sv j), y.rem (y.sv j), RR_rem h (Nat.le_refl S) ⟨n2, s2, hG2, hM2⟩, go _ _ _ (o_rest_t x hj hG2.1 e3 e4 (by rw [f1]; decide)) r2⟩
