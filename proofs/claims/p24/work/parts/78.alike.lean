/-! areAlike -/
theorem bV_votes {v : CV} {n k c : Nat} (hm : WM v n) (hk : k < 162) (h : bV v n k = nI c) (hc : c < 1000) : zbs (zVotes v (nI (k / 18 + 1)) (nI (k / 3 % 6)) (nI (k % 3)) (zBestR v (nI (k / 18 + 1)) (nI (k / 3 % 6)) (nI (k % 3)) n)) 5 = nI c := by
  have l1 : 1 ≤ k / 18 + 1 := by omega
  have l2 : k / 18 + 1 < 10 := by omega
  have ht : k / 3 % 6 < 6 := by omega
  have hu : k % 3 < 3 := by omega
  rw [best0 l1 l2 ht hu, zVotes, if_pos (EB0 l1 l2 ht hu (nm_ok hm (zBR_nm _ _ _ _ _))), zVT, zbs_or]
  rw [bV, zVI] at h
  by_cases q : zRA v (nI (k / 18 + 1)) (nI (k / 3 % 6)) (nI (k % 3)) (zBR v (nI (k / 18 + 1)) (nI (k / 3 % 6)) (nI (k % 3)) n) n = nI 0
  · rw [if_pos q] at h
    exact h
  · rw [if_neg q] at h
    exact absurd h.symm (nI_nn (by omega))
def aS (a kk : Int32) (z5 z6 z7 : Option Value) : List (Option Value) := [some (.ref 0), some (.ref 97), some (.int a), some (.int (nI 1)), some (.int kk), z5, z6, z7]
theorem nI_neq {a b : Nat} (h : ¬ a = b) (ha : a < 2 ^ 31) (hb : b < 2 ^ 31) : ¬ nI a = nI b := fun q => h ((nI_eq ha hb).mp q)
section ALK
variable {R1 : Int32 → List ZC → Prop} {R0 : List ZC → Prop} {C : ZP} {x y : ZX} {n : Nat}
set_option maxHeartbeats 4000000 in
set_option maxRecDepth 20000 in
theorem al1 (hC0 : zR 5 cL_areAlike qL_areAlike 8 7 156 R1 R0 C) (hm : WM x.v n) (hl : WL x.v n) (hM : MR n x.v y.v) (a : Int32) (k : ∀ z5 z6 z7, C 46 (aS a (nI 0) z5 z6 z7) [] (hLL x y)) : C 0 [some (.ref 0), some (.ref 97), some (.int a), none, none, none, none, none] [] (hLL x y) := by
  refine zgo hC0 0 4 rfl ?_
  refine zloop 12 (fun i => ∀ kk : Int32, kk = nI i → C 5 (aS a kk none none none) [] (hLL x y)) ?_ ?_ _ rfl
  · rintro kk rfl
    refine zgo hC0 4 3 rfl ?_
    refine And.intro (fun _ => ?_) (fun c => absurd (Int32.le_refl _) c)
    refine zgo hC0 22 2 rfl ?_
    exact k none none none
  · rintro i hi ih kk rfl
    refine zgo hC0 4 3 rfl ?_
    refine And.intro (fun c => absurd c (nI_ge hi (by decide))) (fun _ => ?_)
    refine zgo hC0 7 2 rfl ?_
    refine And.intro (fun c => absurd c (by decide)) (fun _ => ?_)
    refine zgo hC0 9 2 rfl ?_
    refine zcallVb (sg := zbl 0 97) hC0 (o_count x (j := i) (by omega) hm) (lSBo _ _ _) lnd1 (Nat.le_of_ble_eq_true rfl) vX3_count lk5_33 (by decide +kernel : decode cL_areAlike 19 = .ok (.invokevirtual 33, 3)) rfl rfl rfl (Nat.le_of_ble_eq_true rfl) (Nat.le_of_ble_eq_true rfl) (Nat.le_of_ble_eq_true rfl) ?_
    refine zgo hC0 12 2 rfl ?_
    refine zcallVb (sg := zbl 97 97) hC0 (q_count y (nI x.k) (nI x.q) hM hm hl hi) (lSBp _ _ _) lnd2 (Nat.le_of_ble_eq_true rfl) vX3_count lk5_33 (by decide +kernel : decode cL_areAlike 25 = .ok (.invokevirtual 33, 3)) rfl rfl rfl (Nat.le_of_ble_eq_true rfl) (Nat.le_of_ble_eq_true rfl) (Nat.le_of_ble_eq_true rfl) ?_
    refine zgo hC0 15 1 rfl ?_
    refine And.intro (fun c => absurd (rfl) c) (fun _ => ?_)
    refine zgo hC0 16 2 rfl ?_
    refine zgo hC0 19 3 rfl ?_
    exact ih _ (nI_add i 1)
set_option maxHeartbeats 4000000 in
set_option maxRecDepth 20000 in
theorem al2 (hC0 : zR 5 cL_areAlike qL_areAlike 8 7 156 R1 R0 C) (hm : WM x.v n) (hl : WL x.v n) (hM : MR n x.v y.v) (a : Int32) (k : ∀ z5 z6 z7, C 141 (aS a (nI 0) z5 z6 z7) [] (hLL x y)) (z5 z6 z7 : Option Value) : C 46 (aS a (nI 0) z5 z6 z7) [] (hLL x y) := by
  have hn := hm.2
  refine zloop n (fun i => ∀ (kk : Int32) (z5 z6 z7 : Option Value), kk = nI i → C 46 (aS a kk z5 z6 z7) [] (hLL x y)) ?_ ?_ _ _ _ _ rfl
  · rintro kk z5 z6 z7 rfl
    refine zgo hC0 24 3 rfl ?_
    refine zcallVb (sg := zbl 0 97) hC0 (o_count x (j := 4) (by decide) hm) (lSBo _ _ _) lnd1 (Nat.le_of_ble_eq_true rfl) vX3_count lk5_33 (by decide +kernel : decode cL_areAlike 50 = .ok (.invokevirtual 33, 3)) rfl rfl rfl (Nat.le_of_ble_eq_true rfl) (Nat.le_of_ble_eq_true rfl) (Nat.le_of_ble_eq_true rfl) ?_
    refine zgo hC0 28 1 rfl ?_
    refine And.intro (fun _ => ?_) (fun c => absurd (zge_rf hm) c)
    refine zgo hC0 68 2 rfl ?_
    exact k _ _ _
  · rintro i hi ih kk z5 z6 z7 rfl
    refine zgo hC0 24 3 rfl ?_
    refine zcallVb (sg := zbl 0 97) hC0 (o_count x (j := 4) (by decide) hm) (lSBo _ _ _) lnd1 (Nat.le_of_ble_eq_true rfl) vX3_count lk5_33 (by decide +kernel : decode cL_areAlike 50 = .ok (.invokevirtual 33, 3)) rfl rfl rfl (Nat.le_of_ble_eq_true rfl) (Nat.le_of_ble_eq_true rfl) (Nat.le_of_ble_eq_true rfl) ?_
    refine zgo hC0 28 1 rfl ?_
    refine And.intro (fun c => absurd c (zge_no hm hi)) (fun _ => ?_)
    refine zgo hC0 29 2 rfl ?_
    refine zloop 9 (fun j => ∀ (w : Int32) (z6 z7 : Option Value), w = nI j → C 59 (aS a (nI i) (some (.int w)) z6 z7) [] (hLL x y)) ?_ ?_ _ _ _ rfl
    · rintro w z6 z7 rfl
      refine zgo hC0 31 3 rfl ?_
      refine And.intro (fun _ => ?_) (fun c => absurd (Int32.le_refl _) c)
      refine zgo hC0 66 2 rfl ?_
      exact ih _ _ _ _ (nI_add i 1)
    · rintro j hj ih2 w z6 z7 rfl
      have tail : ∀ z6 z7 : Option Value, C 120 (aS a (nI i) (some (.int (nI j))) z6 z7) [] (hLL x y) := by
        intro z6 z7
        refine zgo hC0 60 2 rfl ?_
        refine zgo hC0 63 3 rfl ?_
        exact ih2 _ _ _ (nI_add j 1)
      refine zgo hC0 31 3 rfl ?_
      refine And.intro (fun c => absurd c (nI_ge hj (by decide))) (fun _ => ?_)
      refine zgo hC0 34 3 rfl ?_
      refine zcallVb (sg := zbl 0 97) hC0 (o_law x hi hj hm) (lSBo _ _ _) lnd1 (Nat.le_of_ble_eq_true rfl) vX3_law lk5_56 (by decide +kernel : decode cL_areAlike 71 = .ok (.invokevirtual 56, 3)) rfl rfl rfl (Nat.le_of_ble_eq_true rfl) (Nat.le_of_ble_eq_true rfl) (Nat.le_of_ble_eq_true rfl) ?_
      refine zgo hC0 38 3 rfl ?_
      refine And.intro (fun c => absurd c (by decide)) (fun _ => ?_)
      refine zgo hC0 41 3 rfl ?_
      refine zcallVb (sg := zbl 97 97) hC0 (q_law y hM hm hl hi hj) (lSBp _ _ _) lnd2 (Nat.le_of_ble_eq_true rfl) vX3_law lk5_56 (by decide +kernel : decode cL_areAlike 85 = .ok (.invokevirtual 56, 3)) rfl rfl rfl (Nat.le_of_ble_eq_true rfl) (Nat.le_of_ble_eq_true rfl) (Nat.le_of_ble_eq_true rfl) ?_
      refine zgo hC0 45 3 rfl ?_
      by_cases c1 : j = 1
      · subst c1
        refine And.intro (fun c => absurd (rfl) c) (fun _ => ?_)
        refine zgo hC0 48 4 rfl ?_
        refine zgo hC0 59 1 rfl ?_
        refine And.intro (fun c => absurd (if_pos rfl) c) (fun _ => tail _ _)
      · refine And.intro (fun _ => ?_) (fun c => absurd c (nI_neq c1 (by omega) (by decide)))
        refine zgo hC0 52 3 rfl ?_
        by_cases c2 : j = 2
        · subst c2
          refine And.intro (fun c => absurd (rfl) c) (fun _ => ?_)
          refine zgo hC0 55 1 rfl ?_
          refine zcallS hC0 (mL_next _ _) vL_next lk5_40 (by decide +kernel : decode cL_areAlike 109 = .ok (.invokestatic 40, 3)) rfl rfl (Nat.le_of_ble_eq_true rfl) (Nat.le_of_ble_eq_true rfl) (Nat.le_of_ble_eq_true rfl) ?_
          refine zgo hC0 57 1 rfl ?_
          refine zgo hC0 59 1 rfl ?_
          refine And.intro (fun c => absurd rfl c) (fun _ => tail _ _)
        · refine And.intro (fun _ => ?_) (fun c => absurd c (nI_neq c2 (by omega) (by decide)))
          refine zgo hC0 58 2 rfl ?_
          refine And.intro (fun c => absurd ((if_neg c1).trans (if_neg c2)) c) (fun _ => tail _ _)
set_option maxHeartbeats 4000000 in
set_option maxRecDepth 20000 in
theorem al3a (hC0 : zR 5 cL_areAlike qL_areAlike 8 7 156 R1 R0 C) (hm : WM x.v n) (hl : WL x.v n) (hM : MR n x.v y.v) (a : Int32) {t : Nat} (ht : t < 6) (k : ∀ z6 z7, C 215 (aS a (nI t) (some (.int (nI 0))) z6 z7) [] (hLL x y)) (z6 z7 : Option Value) : C 151 (aS a (nI t) (some (.int (nI 0))) z6 z7) [] (hLL x y) := by
  refine zloop 5 (fun j => ∀ (w : Int32) (z6 z7 : Option Value), w = nI j → C 151 (aS a (nI t) (some (.int w)) z6 z7) [] (hLL x y)) ?_ ?_ _ _ _ rfl
  · rintro w z6 z7 rfl
    refine zgo hC0 75 3 rfl ?_
    refine And.intro (fun _ => ?_) (fun c => absurd (Int32.le_refl _) c)
    refine zgo hC0 105 2 rfl ?_
    exact k _ _
  · rintro j hj ih2 w z6 z7 rfl
    have tail : ∀ z6 z7 : Option Value, C 200 (aS a (nI t) (some (.int (nI j))) z6 z7) [] (hLL x y) := by
      intro z6 z7
      refine zgo hC0 99 2 rfl ?_
      refine zgo hC0 102 3 rfl ?_
      exact ih2 _ _ _ (nI_add j 1)
    refine zgo hC0 75 3 rfl ?_
    refine And.intro (fun c => absurd c (nI_ge hj (by decide))) (fun _ => ?_)
    refine zgo hC0 78 3 rfl ?_
    refine zcallVb (sg := zbl 0 97) hC0 (o_topic x ht hj hm) (lSBo _ _ _) lnd1 (Nat.le_of_ble_eq_true rfl) vX3_topic lk5_88 (by decide +kernel : decode cL_areAlike 162 = .ok (.invokevirtual 88, 3)) rfl rfl rfl (Nat.le_of_ble_eq_true rfl) (Nat.le_of_ble_eq_true rfl) (Nat.le_of_ble_eq_true rfl) ?_
    refine zgo hC0 82 3 rfl ?_
    refine And.intro (fun c => absurd c (by decide)) (fun _ => ?_)
    refine zgo hC0 85 5 rfl ?_
    refine zcallVb (sg := zbl 97 97) hC0 (q_topic y hM hm hl ht hj) (lSBp _ _ _) lnd2 (Nat.le_of_ble_eq_true rfl) vX3_topic lk5_88 (by decide +kernel : decode cL_areAlike 178 = .ok (.invokevirtual 88, 3)) rfl rfl rfl (Nat.le_of_ble_eq_true rfl) (Nat.le_of_ble_eq_true rfl) (Nat.le_of_ble_eq_true rfl) ?_
    refine zgo hC0 91 3 rfl ?_
    by_cases c1 : j = 1
    · subst c1
      refine And.intro (fun c => absurd (rfl) c) (fun _ => ?_)
      refine zgo hC0 94 1 rfl ?_
      refine zcallS hC0 (mL_next _ _) vL_next lk5_40 (by decide +kernel : decode cL_areAlike 189 = .ok (.invokestatic 40, 3)) rfl rfl (Nat.le_of_ble_eq_true rfl) (Nat.le_of_ble_eq_true rfl) (Nat.le_of_ble_eq_true rfl) ?_
      refine zgo hC0 96 1 rfl ?_
      refine zgo hC0 98 1 rfl ?_
      refine And.intro (fun c => absurd (if_pos rfl) c) (fun _ => tail _ _)
    · refine And.intro (fun _ => ?_) (fun c => absurd c (nI_neq c1 (by omega) (by decide)))
      refine zgo hC0 97 2 rfl ?_
      refine And.intro (fun c => absurd (if_neg c1) c) (fun _ => tail _ _)
set_option maxHeartbeats 4000000 in
set_option maxRecDepth 20000 in
theorem al3b (hC0 : zR 5 cL_areAlike qL_areAlike 8 7 156 R1 R0 C) (hm : WM x.v n) (hl : WL x.v n) (hM : MR n x.v y.v) (a : Int32) {t : Nat} (ht : t < 6) (k : ∀ z5 z6 z7, C 141 (aS a (nI (t + 1)) z5 z6 z7) [] (hLL x y)) (z6 z7 : Option Value) : C 215 (aS a (nI t) (some (.int (nI 0))) z6 z7) [] (hLL x y) := by
  refine zloop 3 (fun c => ∀ (w : Int32) (z6 z7 : Option Value), w = nI c → C 215 (aS a (nI t) (some (.int w)) z6 z7) [] (hLL x y)) ?_ ?_ _ _ _ rfl
  · rintro w z6 z7 rfl
    refine zgo hC0 107 3 rfl ?_
    refine And.intro (fun _ => ?_) (fun c => absurd (Int32.le_refl _) c)
    refine zgo hC0 192 2 rfl ?_
    have h9 := k (some (.int (nI 3))) z6 z7
    rw [← nI_add] at h9
    exact h9
  · rintro c hc ih2 w z6 z7 rfl
    refine zgo hC0 107 3 rfl ?_
    refine And.intro (fun c => absurd c (nI_ge hc (by decide))) (fun _ => ?_)
    refine zgo hC0 110 2 rfl ?_
    refine And.intro (fun c => absurd c (by decide)) (fun _ => ?_)
    refine zgo hC0 112 3 rfl ?_
    refine zcallVb (sg := zbl 0 97) hC0 (o_long x (nI t) (nI c) hm) (lSBo _ _ _) lnd1 (Nat.le_of_ble_eq_true rfl) vX3_longestBill lk5_91 (by decide +kernel : decode cL_areAlike 230 = .ok (.invokevirtual 91, 3)) rfl rfl rfl (Nat.le_of_ble_eq_true rfl) (Nat.le_of_ble_eq_true rfl) (Nat.le_of_ble_eq_true rfl) ?_
    refine zgo hC0 116 5 rfl ?_
    refine zcallS hC0 (mL_next (nI c) _) vL_next lk5_40 (by decide +kernel : decode cL_areAlike 240 = .ok (.invokestatic 40, 3)) rfl rfl (Nat.le_of_ble_eq_true rfl) (Nat.le_of_ble_eq_true rfl) (Nat.le_of_ble_eq_true rfl) ?_
    refine zcallVb (sg := zbl 97 97) hC0 (q_long y hM hm hl ht hc) (lSBp _ _ _) lnd2 (Nat.le_of_ble_eq_true rfl) vX3_longestBill lk5_91 (by decide +kernel : decode cL_areAlike 243 = .ok (.invokevirtual 91, 3)) rfl rfl rfl (Nat.le_of_ble_eq_true rfl) (Nat.le_of_ble_eq_true rfl) (Nat.le_of_ble_eq_true rfl) ?_
    refine zgo hC0 123 1 rfl ?_
    refine And.intro (fun c => absurd (rfl) c) (fun _ => ?_)
    refine zgo hC0 124 2 rfl ?_
    refine zgo hC0 127 6 rfl ?_
    refine zcallS hC0 (mL_up (a >>> (nI t &&& 31)) 9 (by decide) (by decide) _) vL_up lk5_27 (by decide +kernel : decode cL_areAlike 262 = .ok (.invokestatic 27, 3)) rfl rfl (Nat.le_of_ble_eq_true rfl) (Nat.le_of_ble_eq_true rfl) (Nat.le_of_ble_eq_true rfl) ?_
    refine zgo hC0 134 6 rfl ?_
    refine zcallVb (sg := zbl 0 97) hC0 (o_bestR x (nI 1 + nI (upn (a >>> (nI t &&& 31)) 9)) (nI t) (nI c) hm) (lSBo _ _ _) lnd1 (Nat.le_of_ble_eq_true rfl) vX3_bestRepeal lk5_78 (by decide +kernel : decode cL_areAlike 275 = .ok (.invokevirtual 78, 3)) rfl rfl rfl (Nat.le_of_ble_eq_true rfl) (Nat.le_of_ble_eq_true rfl) (Nat.le_of_ble_eq_true rfl) ?_
    refine zgo hC0 141 3 rfl ?_
    refine And.intro (fun c => absurd c (by decide)) (fun _ => ?_)
    refine zgo hC0 144 7 rfl ?_
    refine zcallS hC0 (mL_next (nI c) _) vL_next lk5_40 (by decide +kernel : decode cL_areAlike 295 = .ok (.invokestatic 40, 3)) rfl rfl (Nat.le_of_ble_eq_true rfl) (Nat.le_of_ble_eq_true rfl) (Nat.le_of_ble_eq_true rfl) ?_
    refine zcallVb (sg := zbl 97 97) hC0 (q_bestR y hM hm hl (nI 1 + nI (upn (a >>> (nI t &&& 31)) 9)) ht hc) (lSBp _ _ _) lnd2 (Nat.le_of_ble_eq_true rfl) vX3_bestRepeal lk5_78 (by decide +kernel : decode cL_areAlike 298 = .ok (.invokevirtual 78, 3)) rfl rfl rfl (Nat.le_of_ble_eq_true rfl) (Nat.le_of_ble_eq_true rfl) (Nat.le_of_ble_eq_true rfl) ?_
    refine zgo hC0 153 1 rfl ?_
    refine And.intro (fun c => absurd (rfl) c) (fun _ => ?_)
    refine zgo hC0 154 5 rfl ?_
    refine zcallVb (sg := zbl 0 97) hC0 (o_why x (nI 1 + nI (upn (a >>> (nI t &&& 31)) 9)) (nI t) (nI c) _ hm) (lSBo _ _ _) lnd1 (Nat.le_of_ble_eq_true rfl) vX3_why lk5_81 (by decide +kernel : decode cL_areAlike 313 = .ok (.invokevirtual 81, 3)) rfl rfl rfl (Nat.le_of_ble_eq_true rfl) (Nat.le_of_ble_eq_true rfl) (Nat.le_of_ble_eq_true rfl) ?_
    refine zgo hC0 160 6 rfl ?_
    refine zcallS hC0 (mL_next (nI c) _) vL_next lk5_40 (by decide +kernel : decode cL_areAlike 325 = .ok (.invokestatic 40, 3)) rfl rfl (Nat.le_of_ble_eq_true rfl) (Nat.le_of_ble_eq_true rfl) (Nat.le_of_ble_eq_true rfl) ?_
    refine zgo hC0 167 1 rfl ?_
    refine zcallVb (sg := zbl 97 97) hC0 (q_why y hM hm hl (nI 1 + nI (upn (a >>> (nI t &&& 31)) 9)) _ ht hc) (lSBp _ _ _) lnd2 (Nat.le_of_ble_eq_true rfl) vX3_why lk5_81 (by decide +kernel : decode cL_areAlike 330 = .ok (.invokevirtual 81, 3)) rfl rfl rfl (Nat.le_of_ble_eq_true rfl) (Nat.le_of_ble_eq_true rfl) (Nat.le_of_ble_eq_true rfl) ?_
    refine zgo hC0 169 1 rfl ?_
    refine And.intro (fun c => absurd (rfl) c) (fun _ => ?_)
    refine zgo hC0 170 5 rfl ?_
    refine zcallVb (sg := zbl 0 97) hC0 (o_votes x (nI 1 + nI (upn (a >>> (nI t &&& 31)) 9)) (nI t) (nI c) _ hm) (lSBo _ _ _) lnd1 (Nat.le_of_ble_eq_true rfl) vX3_votes lk5_94 (by decide +kernel : decode cL_areAlike 345 = .ok (.invokevirtual 94, 3)) rfl rfl rfl (Nat.le_of_ble_eq_true rfl) (Nat.le_of_ble_eq_true rfl) (Nat.le_of_ble_eq_true rfl) ?_
    refine zgo hC0 176 6 rfl ?_
    refine zcallS hC0 (mL_next (nI c) _) vL_next lk5_40 (by decide +kernel : decode cL_areAlike 357 = .ok (.invokestatic 40, 3)) rfl rfl (Nat.le_of_ble_eq_true rfl) (Nat.le_of_ble_eq_true rfl) (Nat.le_of_ble_eq_true rfl) ?_
    refine zgo hC0 183 1 rfl ?_
    refine zcallVb (sg := zbl 97 97) hC0 (q_votes y hM hm hl (nI 1 + nI (upn (a >>> (nI t &&& 31)) 9)) _ ht hc) (lSBp _ _ _) lnd2 (Nat.le_of_ble_eq_true rfl) vX3_votes lk5_94 (by decide +kernel : decode cL_areAlike 362 = .ok (.invokevirtual 94, 3)) rfl rfl rfl (Nat.le_of_ble_eq_true rfl) (Nat.le_of_ble_eq_true rfl) (Nat.le_of_ble_eq_true rfl) ?_
    refine zgo hC0 185 1 rfl ?_
    refine And.intro (fun c => absurd (rfl) c) (fun _ => ?_)
    refine zgo hC0 186 2 rfl ?_
    refine zgo hC0 189 3 rfl ?_
    exact ih2 _ _ _ (nI_add c 1)
set_option maxHeartbeats 4000000 in
set_option maxRecDepth 20000 in
theorem al3 (hC0 : zR 5 cL_areAlike qL_areAlike 8 7 156 R1 R0 C) (hm : WM x.v n) (hl : WL x.v n) (hM : MR n x.v y.v) (a : Int32) (k : ∀ z5 z6 z7, C 389 (aS a (nI 0) z5 z6 z7) [] (hLL x y)) (z5 z6 z7 : Option Value) : C 141 (aS a (nI 0) z5 z6 z7) [] (hLL x y) := by
  refine zloop 6 (fun t => ∀ z5 z6 z7 : Option Value, C 141 (aS a (nI t) z5 z6 z7) [] (hLL x y)) ?_ ?_ _ _ _
  · intro z5 z6 z7
    refine zgo hC0 70 3 rfl ?_
    refine And.intro (fun _ => ?_) (fun c => absurd (Int32.le_refl _) c)
    refine zgo hC0 194 2 rfl ?_
    exact k _ _ _
  · intro t ht ih z5 z6 z7
    refine zgo hC0 70 3 rfl ?_
    refine And.intro (fun c => absurd c (nI_ge ht (by decide))) (fun _ => ?_)
    refine zgo hC0 73 2 rfl ?_
    exact al3a hC0 hm hl hM a ht (al3b hC0 hm hl hM a ht ih) _ _
set_option maxHeartbeats 4000000 in
set_option maxRecDepth 20000 in
theorem al4 (hC0 : zR 5 cL_areAlike qL_areAlike 8 7 156 R1 R0 C) (hm : WM x.v n) (hl : WL x.v n) (hM : MR n x.v y.v) (a : Int32) (k : ∀ z4 z5 z6 z7, C 505 [some (.ref 0), some (.ref 97), some (.int a), some (.int (nI 1)), z4, z5, z6, z7] [] (hLL x y)) (z5 z6 z7 : Option Value) : C 389 (aS a (nI 0) z5 z6 z7) [] (hLL x y) := by
  refine zloop 5 (fun c => ∀ z5 z6 z7 : Option Value, C 389 (aS a (nI c) z5 z6 z7) [] (hLL x y)) ?_ ?_ _ _ _
  · intro z5 z6 z7
    refine zgo hC0 196 3 rfl ?_
    refine And.intro (fun _ => ?_) (fun c => absurd (Int32.le_refl _) c)
    exact k _ _ _ _
  · intro c hc ih z5 z6 z7
    refine zgo hC0 196 3 rfl ?_
    refine And.intro (fun c => absurd c (nI_ge hc (by decide))) (fun _ => ?_)
    refine zgo hC0 199 2 rfl ?_
    refine And.intro (fun c => absurd c (by decide)) (fun _ => ?_)
    refine zgo hC0 201 3 rfl ?_
    refine zcallVb (sg := zbl 0 97) hC0 (o_c6 x hc hm) (lSBo _ _ _) lnd1 (Nat.le_of_ble_eq_true rfl) vX3_councillor lk5_49 (by decide +kernel : decode cL_areAlike 404 = .ok (.invokevirtual 49, 3)) rfl rfl rfl (Nat.le_of_ble_eq_true rfl) (Nat.le_of_ble_eq_true rfl) (Nat.le_of_ble_eq_true rfl) ?_
    refine zcallS hC0 (mL_bits6 _ _) vL_bits6 lk5_97 (by decide +kernel : decode cL_areAlike 407 = .ok (.invokestatic 97, 3)) rfl rfl (Nat.le_of_ble_eq_true rfl) (Nat.le_of_ble_eq_true rfl) (Nat.le_of_ble_eq_true rfl) ?_
    refine zgo hC0 206 3 rfl ?_
    refine zcallVb (sg := zbl 97 97) hC0 (o_c6 y hc (mr_WM hM hm)) (lSBp _ _ _) lnd2 (Nat.le_of_ble_eq_true rfl) vX3_councillor lk5_49 (by decide +kernel : decode cL_areAlike 415 = .ok (.invokevirtual 49, 3)) rfl rfl rfl (Nat.le_of_ble_eq_true rfl) (Nat.le_of_ble_eq_true rfl) (Nat.le_of_ble_eq_true rfl) ?_
    refine zcallS hC0 (mL_bits6 _ _) vL_bits6 lk5_97 (by decide +kernel : decode cL_areAlike 418 = .ok (.invokestatic 97, 3)) rfl rfl (Nat.le_of_ble_eq_true rfl) (Nat.le_of_ble_eq_true rfl) (Nat.le_of_ble_eq_true rfl) ?_
    refine zgo hC0 211 1 rfl ?_
    refine And.intro (fun c => absurd (by rw [zb6_or, zb6_or, mr_c6 hM hm hl hc]) c) (fun _ => ?_)
    refine zgo hC0 212 3 rfl ?_
    refine zcallVb (sg := zbl 0 97) hC0 (o_c7 x hc hm) (lSBo _ _ _) lnd1 (Nat.le_of_ble_eq_true rfl) vX3_councillor lk5_49 (by decide +kernel : decode cL_areAlike 429 = .ok (.invokevirtual 49, 3)) rfl rfl rfl (Nat.le_of_ble_eq_true rfl) (Nat.le_of_ble_eq_true rfl) (Nat.le_of_ble_eq_true rfl) ?_
    refine zgo hC0 216 3 rfl ?_
    refine zcallVb (sg := zbl 97 97) hC0 (q_c7 y hM hm hl hc) (lSBp _ _ _) lnd2 (Nat.le_of_ble_eq_true rfl) vX3_councillor lk5_49 (by decide +kernel : decode cL_areAlike 437 = .ok (.invokevirtual 49, 3)) rfl rfl rfl (Nat.le_of_ble_eq_true rfl) (Nat.le_of_ble_eq_true rfl) (Nat.le_of_ble_eq_true rfl) ?_
    refine zgo hC0 220 1 rfl ?_
    refine And.intro (fun c => absurd (rfl) c) (fun _ => ?_)
    refine zgo hC0 221 2 rfl ?_
    refine zgo hC0 224 3 rfl ?_
    refine zloop 6 (fun t => ∀ (w : Int32) (z6 z7 : Option Value), w = nI t → C 452 (aS a (nI c) (some (.int w)) z6 z7) [] (hLL x y)) ?_ ?_ _ _ _ rfl
    · rintro w z6 z7 rfl
      refine zgo hC0 227 3 rfl ?_
      refine And.intro (fun _ => ?_) (fun c => absurd (Int32.le_refl _) c)
      refine zgo hC0 250 2 rfl ?_
      have h9 := ih (some (.int (nI 6))) z6 z7
      rw [← nI_add] at h9
      exact h9
    · rintro t ht ih2 w z6 z7 rfl
      refine zgo hC0 227 3 rfl ?_
      refine And.intro (fun c => absurd c (nI_ge ht (by decide))) (fun _ => ?_)
      refine zgo hC0 230 2 rfl ?_
      refine And.intro (fun c => absurd c (by decide)) (fun _ => ?_)
      refine zgo hC0 232 5 rfl ?_
      refine zcallVb (sg := zbl 97 97) hC0 (q_cw y hM hm hc ht) (lSBp _ _ _) lnd2 (Nat.le_of_ble_eq_true rfl) vX3_councillor lk5_49 (by decide +kernel : decode cL_areAlike 470 = .ok (.invokevirtual 49, 3)) rfl rfl rfl (Nat.le_of_ble_eq_true rfl) (Nat.le_of_ble_eq_true rfl) (Nat.le_of_ble_eq_true rfl) ?_
      refine zgo hC0 238 3 rfl ?_
      refine zcallVb (sg := zbl 0 97) hC0 (o_cw x hc ht hm) (lSBo _ _ _) lnd1 (Nat.le_of_ble_eq_true rfl) vX3_councillor lk5_49 (by decide +kernel : decode cL_areAlike 478 = .ok (.invokevirtual 49, 3)) rfl rfl rfl (Nat.le_of_ble_eq_true rfl) (Nat.le_of_ble_eq_true rfl) (Nat.le_of_ble_eq_true rfl) ?_
      refine zcallS hC0 (mL_next _ _) vL_next lk5_40 (by decide +kernel : decode cL_areAlike 481 = .ok (.invokestatic 40, 3)) rfl rfl (Nat.le_of_ble_eq_true rfl) (Nat.le_of_ble_eq_true rfl) (Nat.le_of_ble_eq_true rfl) ?_
      refine zgo hC0 243 1 rfl ?_
      refine And.intro (fun c => absurd (rfl) c) (fun _ => ?_)
      refine zgo hC0 244 2 rfl ?_
      refine zgo hC0 247 3 rfl ?_
      exact ih2 _ _ _ (nI_add t 1)
end ALK
