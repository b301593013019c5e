/-! isWell: its topics, its end -/
def wT (f w g L r m t : Int32) (z9 z10 : Option Value) : List (Option Value) := [some (.ref 0), some (.int f), some (.int w), some (.int g), some (.int L), some (.int (nI 1)), some (.int r), some (.int m), some (.int t), z9, z10]
section WEL2
variable {R1 : Int32 → List ZC → Prop} {R0 : List ZC → Prop} {C : ZP} {x : ZX} {S n s : Nat}
set_option maxHeartbeats 4000000 in
set_option maxRecDepth 20000 in
theorem wl_top (hC0 : zR 5 cL_isWell qL_isWell 11 7 156 R1 R0 C) (hm : WM x.v n) (hl : WL x.v n) (f w g L : Int32) (z9 z10 : Option Value) (k : ∀ z9 z10, C 539 (wT f w g L (nI (cnt (fun t => decide (¬ zH x.v (nI t) n = -(nI 6))) 6)) (zsm (fun t => nI (cnt (iT x.v (nI t)) n)) 6) (nI 6) z9 z10) [] x.h) : C 407 (wT f w g L (nI 0) (nI 0) (nI 0) z9 z10) [] x.h := by
  have hn := hm.2
  refine zloop 6 (fun t => ∀ z9 z10 : Option Value, C 407 (wT f w g L (nI (cnt (fun t => decide (¬ zH x.v (nI t) n = -(nI 6))) t)) (zsm (fun t => nI (cnt (iT x.v (nI t)) n)) t) (nI t) z9 z10) [] x.h) ?_ ?_ z9 z10
  · intro z9 z10
    refine zgo hC0 211 3 rfl ?_
    refine And.intro (fun _ => ?_) (fun c => absurd (Int32.le_refl _) c)
    exact k _ _
  · intro t ht ih z9 z10
    have c526 : ∀ z10, C 526 (wT f w g L (nI (cnt (fun t => decide (¬ zH x.v (nI t) n = -(nI 6))) (t + 1))) (zsm (fun t => nI (cnt (iT x.v (nI t)) n)) (t + 1)) (nI t) (some (.int (zH x.v (nI t) n))) z10) [] x.h := by
      intro z10
      refine zgo hC0 271 2 rfl ?_
      refine zgo hC0 274 3 rfl ?_
      have h9 := ih (some (.int (zH x.v (nI t) n))) z10
      rw [← nI_add t 1] at h9
      exact h9
    have c435 : ∀ (b : Bool) (z10 : Option Value), b = decide (¬ zH x.v (nI t) n = -(nI 6)) → C 435 (wT f w g L (nI (cnt (fun t => decide (¬ zH x.v (nI t) n = -(nI 6))) t)) (zsm (fun t => nI (cnt (iT x.v (nI t)) n)) t) (nI t) (some (.int (zH x.v (nI t) n))) z10) [.int (b2i b), .int (nI (cnt (fun t => decide (¬ zH x.v (nI t) n = -(nI 6))) t))] x.h := by
      intro b z10 hb
      have eb : nI (cnt (fun t => decide (¬ zH x.v (nI t) n = -(nI 6))) (t + 1)) = nI (cnt (fun t => decide (¬ zH x.v (nI t) n = -(nI 6))) t) + b2i b := by
        cases b with
        | true => exact (cnt_t hb.symm).symm
        | false =>
          rw [← cnt_f hb.symm]
          exact (Int32.add_zero _).symm
      rw [eb] at c526
      refine zgo hC0 225 6 rfl ?_
      refine zcallV hC0 (o_topic x ht (j := 0) (by decide) hm) vX3_topic lk5_88 (by decide +kernel : decode cL_isWell 444 = .ok (.invokevirtual 88, 3)) rfl rfl rfl (Nat.le_of_ble_eq_true rfl) (Nat.le_of_ble_eq_true rfl) (Nat.le_of_ble_eq_true rfl) ?_
      refine zgo hC0 232 4 rfl ?_
      refine And.intro (fun c => absurd c (by decide)) (fun _ => ?_)
      refine zgo hC0 236 2 rfl ?_
      rcases w_holder hm hl (nI t) with ⟨e1, e2, e3⟩ | ⟨j, hj, e1, e2, e3, e4⟩
      · refine And.intro (fun c => absurd c (by rw [e1]; decide)) (fun _ => ?_)
        refine zgo hC0 238 3 rfl ?_
        refine zcallV hC0 (o_topic x ht (j := 1) (by decide) hm) vX3_topic lk5_88 (by decide +kernel : decode cL_isWell 464 = .ok (.invokevirtual 88, 3)) rfl rfl rfl (Nat.le_of_ble_eq_true rfl) (Nat.le_of_ble_eq_true rfl) (Nat.le_of_ble_eq_true rfl) ?_
        refine zgo hC0 242 2 rfl ?_
        refine And.intro (fun c => absurd (e2) c) (fun _ => ?_)
        refine zgo hC0 244 3 rfl ?_
        refine zcallV hC0 (o_topic x ht (j := 0) (by decide) hm) vX3_topic lk5_88 (by decide +kernel : decode cL_isWell 476 = .ok (.invokevirtual 88, 3)) rfl rfl rfl (Nat.le_of_ble_eq_true rfl) (Nat.le_of_ble_eq_true rfl) (Nat.le_of_ble_eq_true rfl) ?_
        refine zgo hC0 248 1 rfl ?_
        refine And.intro (fun c => absurd ?_ c) (fun _ => ?_)
        · show nI (cnt (iT x.v (nI t)) n) = 0
          rw [e3]
          rfl
        refine zgo hC0 249 1 rfl ?_
        exact c526 _
      · refine And.intro (fun _ => ?_) (fun c => absurd (by rw [e1]; exact nI_pos' (by omega)) c)
        have h1 := o_lawf x hj (j := 1) (by decide) hm
        have h2 := o_lawf x hj (j := 2) (by decide) hm
        have h8 := o_law x hj (j := 8) (by decide) hm
        rw [← e1] at h1 h2 h8
        refine zgo hC0 250 3 rfl ?_
        refine zcallV hC0 h1 vX3_law lk5_56 (by decide +kernel : decode cL_isWell 489 = .ok (.invokevirtual 56, 3)) rfl rfl rfl (Nat.le_of_ble_eq_true rfl) (Nat.le_of_ble_eq_true rfl) (Nat.le_of_ble_eq_true rfl) ?_
        refine zgo hC0 254 2 rfl ?_
        refine And.intro (fun c => absurd (e3) c) (fun _ => ?_)
        refine zgo hC0 256 3 rfl ?_
        refine zcallV hC0 h2 vX3_law lk5_56 (by decide +kernel : decode cL_isWell 501 = .ok (.invokevirtual 56, 3)) rfl rfl rfl (Nat.le_of_ble_eq_true rfl) (Nat.le_of_ble_eq_true rfl) (Nat.le_of_ble_eq_true rfl) ?_
        refine zgo hC0 260 3 rfl ?_
        refine zcallV hC0 (o_topic x ht (j := 1) (by decide) hm) vX3_topic lk5_88 (by decide +kernel : decode cL_isWell 508 = .ok (.invokevirtual 88, 3)) rfl rfl rfl (Nat.le_of_ble_eq_true rfl) (Nat.le_of_ble_eq_true rfl) (Nat.le_of_ble_eq_true rfl) ?_
        refine zgo hC0 264 1 rfl ?_
        refine And.intro (fun c => absurd (e4.symm) c) (fun _ => ?_)
        refine zgo hC0 265 3 rfl ?_
        refine zcallV hC0 h8 vX3_law lk5_56 (by decide +kernel : decode cL_isWell 519 = .ok (.invokevirtual 56, 3)) rfl rfl rfl (Nat.le_of_ble_eq_true rfl) (Nat.le_of_ble_eq_true rfl) (Nat.le_of_ble_eq_true rfl) ?_
        refine zgo hC0 269 2 rfl ?_
        refine And.intro (fun c => absurd ?_ c) (fun _ => c526 _)
        show (if zH x.v (x.v 3 (zH x.v (nI t) n).toNatClampNeg) n = zH x.v (nI t) n then nI 1 else nI 0) = nI 1
        rw [e1, zcl hn hj, e3, if_pos e1]
    refine zgo hC0 211 3 rfl ?_
    refine And.intro (fun c => absurd c (nI_ge ht (by decide))) (fun _ => ?_)
    refine zgo hC0 214 3 rfl ?_
    refine zcallV hC0 (o_topic x ht (j := 2) (by decide) hm) vX3_topic lk5_88 (by decide +kernel : decode cL_isWell 418 = .ok (.invokevirtual 88, 3)) rfl rfl rfl (Nat.le_of_ble_eq_true rfl) (Nat.le_of_ble_eq_true rfl) (Nat.le_of_ble_eq_true rfl) ?_
    refine zgo hC0 218 4 rfl ?_
    rcases w_holder hm hl (nI t) with ⟨e1, e2, e3⟩ | ⟨j, hj, e1, e2, e3, e4⟩
    · refine And.intro (fun _ => ?_) (fun (c : ¬ zH x.v (nI t) n < 0) => absurd (by rw [e1]; decide) c)
      refine zgo hC0 224 1 rfl ?_
      exact c435 false _ (by rw [e1]; rfl)
    · refine And.intro (fun (c : zH x.v (nI t) n < 0) => absurd c (by rw [e1]; exact nI_pos (by omega))) (fun _ => ?_)
      refine zgo hC0 222 2 rfl ?_
      exact c435 true _ (by rw [e1]; exact (decide_eq_true (nI_nn (by omega))).symm)
end WEL2
set_option maxHeartbeats 4000000 in
set_option maxRecDepth 20000 in
theorem l_well (x : ZX) {S n s : Nat} (hS : S < 2 ^ 20) (hG : GW S n s x.v) : ZM yL_isWell cL_isWell 11 (some .boolean) 7 156 [.ref 0] x.h (some (.int (b2i true))) x.h := by
  have hm := hG.1
  have hl := hG.2.1
  refine zm_of 5 qL_isWell rfl rfl kL_isWell rfl (Nat.le_of_ble_eq_true rfl) (fun C hC0 => ?_)
  refine zgo hC0 0 8 rfl ?_
  refine zcallV hC0 (o_count x (j := 4) (by decide) hm) vX3_count lk5_33 (by decide +kernel : decode cL_isWell 8 = .ok (.invokevirtual 33, 3)) rfl rfl rfl (Nat.le_of_ble_eq_true rfl) (Nat.le_of_ble_eq_true rfl) (Nat.le_of_ble_eq_true rfl) ?_
  refine zgo hC0 9 3 rfl ?_
  refine zcallV hC0 (o_count x (j := 8) (by decide) hm) vX3_count lk5_33 (by decide +kernel : decode cL_isWell 16 = .ok (.invokevirtual 33, 3)) rfl rfl rfl (Nat.le_of_ble_eq_true rfl) (Nat.le_of_ble_eq_true rfl) (Nat.le_of_ble_eq_true rfl) ?_
  refine zgo hC0 13 2 rfl ?_
  refine zcallV hC0 (o_count x (j := 9) (by decide) hm) vX3_count lk5_33 (by decide +kernel : decode cL_isWell 22 = .ok (.invokevirtual 33, 3)) rfl rfl rfl (Nat.le_of_ble_eq_true rfl) (Nat.le_of_ble_eq_true rfl) (Nat.le_of_ble_eq_true rfl) ?_
  refine zgo hC0 16 1 rfl ?_
  refine And.intro (fun c => absurd (w_89 hm hl) c) (fun _ => ?_)
  refine zgo hC0 17 2 rfl ?_
  refine zcallV hC0 (o_count x (j := 5) (by decide) hm) vX3_count lk5_33 (by decide +kernel : decode cL_isWell 30 = .ok (.invokevirtual 33, 3)) rfl rfl rfl (Nat.le_of_ble_eq_true rfl) (Nat.le_of_ble_eq_true rfl) (Nat.le_of_ble_eq_true rfl) ?_
  refine zgo hC0 20 2 rfl ?_
  refine zcallV hC0 (o_count x (j := 6) (by decide) hm) vX3_count lk5_33 (by decide +kernel : decode cL_isWell 36 = .ok (.invokevirtual 33, 3)) rfl rfl rfl (Nat.le_of_ble_eq_true rfl) (Nat.le_of_ble_eq_true rfl) (Nat.le_of_ble_eq_true rfl) ?_
  refine zgo hC0 23 3 rfl ?_
  refine And.intro (fun c => absurd (i_aba _ _) c) (fun _ => ?_)
  refine zgo hC0 26 2 rfl ?_
  refine zgo hC0 29 3 rfl ?_
  show C 55 (wS (nI (cnt (iF x.v) 0)) (zsm (iW x.v) 0) (zsm (fun i => nI (cnt (fun j => zCT x.v (nI i) (nI j)) n)) 0) (x.v 9 0) (nI 0) none none none none) [] x.h
  refine zloop n (fun i => ∀ z7 z8 z9 z10 : Option Value, C 55 (wS (nI (cnt (iF x.v) i)) (zsm (iW x.v) i) (zsm (fun i => nI (cnt (fun j => zCT x.v (nI i) (nI j)) n)) i) (x.v 9 0) (nI i) z7 z8 z9 z10) [] x.h) ?_ (fun i hi ih z7 z8 z9 z10 => wl_law hC0 hG hS hi z7 z8 z9 z10 ih) _ _ _ _
  intro z7 z8 z9 z10
  refine zgo hC0 32 3 rfl ?_
  refine And.intro (fun _ => ?_) (fun c => absurd (zge_rf hm) c)
  refine zgo hC0 205 6 rfl ?_
  refine wl_top hC0 hm hl _ _ _ _ _ _ (fun z9 z10 => ?_)
  refine zgo hC0 277 2 rfl ?_
  refine And.intro (fun c => absurd c (by decide)) (fun _ => ?_)
  refine zgo hC0 279 3 rfl ?_
  refine zcallV hC0 (o_count x (j := 5) (by decide) hm) vX3_count lk5_33 (by decide +kernel : decode cL_isWell 547 = .ok (.invokevirtual 33, 3)) rfl rfl rfl (Nat.le_of_ble_eq_true rfl) (Nat.le_of_ble_eq_true rfl) (Nat.le_of_ble_eq_true rfl) ?_
  refine zgo hC0 283 1 rfl ?_
  refine And.intro (fun c => absurd (rfl) c) (fun _ => ?_)
  refine zgo hC0 284 3 rfl ?_
  refine zcallV hC0 (o_count x (j := 7) (by decide) hm) vX3_count lk5_33 (by decide +kernel : decode cL_isWell 557 = .ok (.invokevirtual 33, 3)) rfl rfl rfl (Nat.le_of_ble_eq_true rfl) (Nat.le_of_ble_eq_true rfl) (Nat.le_of_ble_eq_true rfl) ?_
  refine zgo hC0 288 1 rfl ?_
  refine And.intro (fun c => absurd (rfl) c) (fun _ => ?_)
  refine zgo hC0 289 4 rfl ?_
  refine zcallV hC0 (o_count x (j := 8) (by decide) hm) vX3_count lk5_33 (by decide +kernel : decode cL_isWell 568 = .ok (.invokevirtual 33, 3)) rfl rfl rfl (Nat.le_of_ble_eq_true rfl) (Nat.le_of_ble_eq_true rfl) (Nat.le_of_ble_eq_true rfl) ?_
  refine zgo hC0 294 2 rfl ?_
  refine And.intro (fun c => absurd (w_against hm) c) (fun _ => ?_)
  refine zgo hC0 296 3 rfl ?_
  refine zcallV hC0 (o_count x (j := 10) (by decide) hm) vX3_count lk5_33 (by decide +kernel : decode cL_isWell 580 = .ok (.invokevirtual 33, 3)) rfl rfl rfl (Nat.le_of_ble_eq_true rfl) (Nat.le_of_ble_eq_true rfl) (Nat.le_of_ble_eq_true rfl) ?_
  refine zgo hC0 300 1 rfl ?_
  refine And.intro (fun c => absurd (rfl) c) (fun _ => ?_)
  refine zgo hC0 301 3 rfl ?_
  refine And.intro (fun c => absurd (w_many6 hl) c) (fun _ => ?_)
  refine zgo hC0 304 2 rfl ?_
  refine zgo hC0 307 1 rfl ?_
  exact zret_b rfl
