/-! isWell: a law's check -/
theorem i_aba (a b : Int32) : a + (b - a) = b := by rw [Int32.sub_eq_add_neg, Int32.add_comm b (-a), ← Int32.add_assoc, Int32.add_right_neg, Int32.zero_add]
def wS (f w g L k : Int32) (z7 z8 z9 z10 : Option Value) : List (Option Value) := [some (.ref 0), some (.int f), some (.int w), some (.int g), some (.int L), some (.int (nI 1)), some (.int k), z7, z8, z9, z10]
theorem cnt_noCT {v : CV} {n i : Nat} (hm : WM v n) (hi : i < n) (h : iF v i = false) : nI (cnt (fun j => zCT v (nI i) (nI j)) n) = nI 0 := by
  rw [cnt_congr (p := fun j => zCT v (nI i) (nI j)) (q := fun _ => false) (fun j _ => by rw [zCT, zF_at hm hi, h]; rfl), cnt_0]
theorem iF_v {v : CV} {i : Nat} (h : iF v i = true) : v 6 i = -(nI 6) := of_decide_eq_true h
theorem iF_nv {v : CV} {i : Nat} (h : iF v i = false) : ¬ v 6 i = -(nI 6) := of_decide_eq_false h
section WEL
variable {R1 : Int32 → List ZC → Prop} {R0 : List ZC → Prop} {C : ZP} {x : ZX} {S n s : Nat}
set_option maxHeartbeats 4000000 in
set_option maxRecDepth 20000 in
/-- the law i against the laws before it -/
theorem wl_in (hC0 : zR 5 cL_isWell qL_isWell 11 7 156 R1 R0 C) (hG : GW S n s x.v) {i : Nat} (hi : i < n) (f w g L : Int32) (z7 z8 : Option Value) (k : ∀ z10, C 392 (wS f w g L (nI i) z7 z8 (some (.int (b2i (iF x.v i)))) z10) [] x.h) : C 299 (wS f w g L (nI i) z7 z8 (some (.int (b2i (iF x.v i)))) (some (.int (nI 0)))) [] x.h := by
  have hm := hG.1
  have hn := hm.2
  obtain ⟨-, -, -, hN⟩ := hG.2.2.2.2 i hi
  refine zloop i (fun j => ∀ y : Int32, y = nI j → C 299 (wS f w g L (nI i) z7 z8 (some (.int (b2i (iF x.v i)))) (some (.int y))) [] x.h) ?_ ?_ _ rfl
  · rintro y rfl
    refine zgo hC0 157 3 rfl ?_
    refine And.intro (fun _ => ?_) (fun c => absurd (Int32.le_refl _) c)
    exact k _
  · rintro j hj ih y rfl
    have hj2 : j < n := by omega
    have c379 : C 379 (wS f w g L (nI i) z7 z8 (some (.int (b2i (iF x.v i)))) (some (.int (nI j)))) [] x.h := by
      refine zgo hC0 197 2 rfl ?_
      refine zgo hC0 200 3 rfl ?_
      exact ih _ (nI_add j 1)
    refine zgo hC0 157 3 rfl ?_
    refine And.intro (fun c => absurd c (nI_ge hj (by omega))) (fun _ => ?_)
    refine zgo hC0 160 2 rfl ?_
    refine And.intro (fun c => absurd c (by decide)) (fun _ => ?_)
    refine zgo hC0 162 2 rfl ?_
    cases fi : iF x.v i with
    | false =>
      rw [fi] at c379
      refine And.intro (fun _ => c379) (fun q => absurd rfl q)
    | true =>
      rw [fi] at c379
      refine And.intro (fun c => absurd c (by decide)) (fun _ => ?_)
      refine zgo hC0 164 3 rfl ?_
      refine zcallV hC0 (o_lawf x hj2 (j := 4) (by decide) hm) vX3_law lk5_56 (by decide +kernel : decode cL_isWell 320 = .ok (.invokevirtual 56, 3)) rfl rfl rfl (Nat.le_of_ble_eq_true rfl) (Nat.le_of_ble_eq_true rfl) (Nat.le_of_ble_eq_true rfl) ?_
      refine zgo hC0 168 2 rfl ?_
      refine And.intro (fun _ => c379) (fun (q1 : x.v 6 j = -(nI 6)) => ?_)
      refine zgo hC0 170 3 rfl ?_
      refine zcallV hC0 (o_lawf x hj2 (j := 0) (by decide) hm) vX3_law lk5_56 (by decide +kernel : decode cL_isWell 332 = .ok (.invokevirtual 56, 3)) rfl rfl rfl (Nat.le_of_ble_eq_true rfl) (Nat.le_of_ble_eq_true rfl) (Nat.le_of_ble_eq_true rfl) ?_
      refine zgo hC0 174 3 rfl ?_
      refine zcallV hC0 (o_lawf x hi (j := 0) (by decide) hm) vX3_law lk5_56 (by decide +kernel : decode cL_isWell 339 = .ok (.invokevirtual 56, 3)) rfl rfl rfl (Nat.le_of_ble_eq_true rfl) (Nat.le_of_ble_eq_true rfl) (Nat.le_of_ble_eq_true rfl) ?_
      refine zgo hC0 178 1 rfl ?_
      refine And.intro (fun _ => c379) (fun (q2 : x.v 2 j = x.v 2 i) => ?_)
      refine zgo hC0 179 3 rfl ?_
      refine zcallV hC0 (o_lawf x hj2 (j := 1) (by decide) hm) vX3_law lk5_56 (by decide +kernel : decode cL_isWell 349 = .ok (.invokevirtual 56, 3)) rfl rfl rfl (Nat.le_of_ble_eq_true rfl) (Nat.le_of_ble_eq_true rfl) (Nat.le_of_ble_eq_true rfl) ?_
      refine zgo hC0 183 3 rfl ?_
      refine zcallV hC0 (o_lawf x hi (j := 1) (by decide) hm) vX3_law lk5_56 (by decide +kernel : decode cL_isWell 356 = .ok (.invokevirtual 56, 3)) rfl rfl rfl (Nat.le_of_ble_eq_true rfl) (Nat.le_of_ble_eq_true rfl) (Nat.le_of_ble_eq_true rfl) ?_
      refine zgo hC0 187 1 rfl ?_
      refine And.intro (fun _ => c379) (fun (q3 : x.v 3 j = x.v 3 i) => ?_)
      refine zgo hC0 188 3 rfl ?_
      refine zcallV hC0 (o_lawf x hj2 (j := 2) (by decide) hm) vX3_law lk5_56 (by decide +kernel : decode cL_isWell 366 = .ok (.invokevirtual 56, 3)) rfl rfl rfl (Nat.le_of_ble_eq_true rfl) (Nat.le_of_ble_eq_true rfl) (Nat.le_of_ble_eq_true rfl) ?_
      refine zgo hC0 192 3 rfl ?_
      refine zcallV hC0 (o_lawf x hi (j := 2) (by decide) hm) vX3_law lk5_56 (by decide +kernel : decode cL_isWell 373 = .ok (.invokevirtual 56, 3)) rfl rfl rfl (Nat.le_of_ble_eq_true rfl) (Nat.le_of_ble_eq_true rfl) (Nat.le_of_ble_eq_true rfl) ?_
      refine zgo hC0 196 1 rfl ?_
      refine And.intro (fun (q4 : x.v 4 j = x.v 4 i) => (hN j hj (iF_n q1) fi q2 q3 q4).elim) (fun _ => c379)
set_option maxHeartbeats 4000000 in
set_option maxRecDepth 20000 in
/-- what is told of the law i itself -/
theorem wl_one (hC0 : zR 5 cL_isWell qL_isWell 11 7 156 R1 R0 C) (hG : GW S n s x.v) (hS : S < 2 ^ 20) {i : Nat} (hi : i < n) (f w g L : Int32) (z10 : Option Value) (k : C 299 (wS f w g L (nI i) (some (.int (x.v 8 i))) (some (.int (x.v 7 i))) (some (.int (b2i (iF x.v i)))) (some (.int (nI 0)))) [] x.h) : C 148 (wS f w g L (nI i) (some (.int (x.v 8 i))) (some (.int (x.v 7 i))) (some (.int (b2i (iF x.v i)))) z10) [] x.h := by
  have hm := hG.1
  have hn := hm.2
  have hs := hG.2.2.1
  have hsS := hG.2.2.2.1
  obtain ⟨⟨m, m1, m2, m3⟩, hB, hA, -⟩ := hG.2.2.2.2 i hi
  have c289 : C 289 (wS f w g L (nI i) (some (.int (x.v 8 i))) (some (.int (x.v 7 i))) (some (.int (b2i (iF x.v i)))) z10) [] x.h := by
    refine zgo hC0 151 2 rfl ?_
    refine zgo hC0 154 3 rfl ?_
    exact k
  have c236 : C 236 (wS f w g L (nI i) (some (.int (x.v 8 i))) (some (.int (x.v 7 i))) (some (.int (b2i (iF x.v i)))) z10) [] x.h := by
    refine zgo hC0 125 3 rfl ?_
    refine zcallV hC0 (o_lawf x hi (j := 3) (by decide) hm) vX3_law lk5_56 (by decide +kernel : decode cL_isWell 240 = .ok (.invokevirtual 56, 3)) rfl rfl rfl (Nat.le_of_ble_eq_true rfl) (Nat.le_of_ble_eq_true rfl) (Nat.le_of_ble_eq_true rfl) ?_
    refine zgo hC0 129 2 rfl ?_
    refine zcallV hC0 (o_count x (j := 3) (by decide) hm) vX3_count lk5_33 (by decide +kernel : decode cL_isWell 245 = .ok (.invokevirtual 33, 3)) rfl rfl rfl (Nat.le_of_ble_eq_true rfl) (Nat.le_of_ble_eq_true rfl) (Nat.le_of_ble_eq_true rfl) ?_
    refine zgo hC0 132 1 rfl ?_
    refine And.intro (fun (q : x.v 10 0 < x.v 5 i) => absurd q (by rw [hs, m2]; exact nI_nlt m1 (by omega))) (fun _ => ?_)
    refine zgo hC0 133 2 rfl ?_
    cases fi : iF x.v i with
    | true =>
      rw [fi] at c289
      refine And.intro (fun _ => ?_) (fun c => absurd c (by decide))
      refine zgo hC0 144 2 rfl ?_
      refine And.intro (fun _ => c289) (fun q => absurd q (by decide))
    | false =>
      rw [fi] at c289
      rcases m3 with q | ⟨r, r1, r2, r3⟩
      · rw [fi] at q
        cases q
      refine And.intro (fun c => absurd (rfl) c) (fun _ => ?_)
      refine zgo hC0 135 3 rfl ?_
      refine zcallV hC0 (o_lawf x hi (j := 4) (by decide) hm) vX3_law lk5_56 (by decide +kernel : decode cL_isWell 260 = .ok (.invokevirtual 56, 3)) rfl rfl rfl (Nat.le_of_ble_eq_true rfl) (Nat.le_of_ble_eq_true rfl) (Nat.le_of_ble_eq_true rfl) ?_
      refine zgo hC0 139 3 rfl ?_
      refine zcallV hC0 (o_lawf x hi (j := 3) (by decide) hm) vX3_law lk5_56 (by decide +kernel : decode cL_isWell 267 = .ok (.invokevirtual 56, 3)) rfl rfl rfl (Nat.le_of_ble_eq_true rfl) (Nat.le_of_ble_eq_true rfl) (Nat.le_of_ble_eq_true rfl) ?_
      refine zgo hC0 143 1 rfl ?_
      refine And.intro (fun (q : x.v 6 i < x.v 5 i) => absurd q (by rw [r3, m2]; exact nI_nlt r1 (by omega))) (fun _ => ?_)
      refine zgo hC0 144 2 rfl ?_
      refine And.intro (fun c => absurd (rfl) c) (fun _ => ?_)
      refine zgo hC0 146 3 rfl ?_
      refine zcallV hC0 (o_law x hi (j := 7) (by decide) hm) vX3_law lk5_56 (by decide +kernel : decode cL_isWell 283 = .ok (.invokevirtual 56, 3)) rfl rfl rfl (Nat.le_of_ble_eq_true rfl) (Nat.le_of_ble_eq_true rfl) (Nat.le_of_ble_eq_true rfl) ?_
      refine zgo hC0 150 1 rfl ?_
      refine And.intro (fun q => absurd (cnt_noCT hm hi fi) q) (fun _ => c289)
  have c211 : C 211 (wS f w g L (nI i) (some (.int (x.v 8 i))) (some (.int (x.v 7 i))) (some (.int (b2i (iF x.v i)))) z10) [] x.h := by
    refine zgo hC0 114 2 rfl ?_
    rcases hA with q | ⟨a, a1, a2, a3⟩
    · refine And.intro (fun _ => c236) (fun c => absurd (by rw [q]; decide) c)
    · refine And.intro (fun c => absurd c (by rw [a2]; exact nI_pos (by omega))) (fun _ => ?_)
      rw [a2] at c236 ⊢
      refine zgo hC0 116 3 rfl ?_
      refine And.intro (fun c => absurd c (nI_ge a1 (by omega))) (fun _ => ?_)
      refine zgo hC0 119 3 rfl ?_
      refine zcallV hC0 (o_lawf x (show a < n by omega) (j := 6) (by decide) hm) vX3_law lk5_56 (by decide +kernel : decode cL_isWell 228 = .ok (.invokevirtual 56, 3)) rfl rfl rfl (Nat.le_of_ble_eq_true rfl) (Nat.le_of_ble_eq_true rfl) (Nat.le_of_ble_eq_true rfl) ?_
      refine zgo hC0 123 2 rfl ?_
      refine And.intro (fun c => absurd a3 c) (fun _ => c236)
  refine zgo hC0 83 2 rfl ?_
  rcases hB with q | ⟨b, b1, b2, b3, b4, b5, b6, b7⟩
  · refine And.intro (fun _ => c211) (fun c => absurd (by rw [q]; decide) c)
  · refine And.intro (fun c => absurd c (by rw [b3]; exact nI_pos (by omega))) (fun _ => ?_)
    rw [b3, b4] at c211 ⊢
    refine zgo hC0 85 2 rfl ?_
    refine And.intro (fun c => absurd (rfl) c) (fun _ => ?_)
    refine zgo hC0 87 3 rfl ?_
    refine And.intro (fun c => absurd c (nI_ge b1 (by omega))) (fun _ => ?_)
    refine zgo hC0 90 3 rfl ?_
    refine zcallV hC0 (o_lawf x b2 (j := 5) (by decide) hm) vX3_law lk5_56 (by decide +kernel : decode cL_isWell 169 = .ok (.invokevirtual 56, 3)) rfl rfl rfl (Nat.le_of_ble_eq_true rfl) (Nat.le_of_ble_eq_true rfl) (Nat.le_of_ble_eq_true rfl) ?_
    refine zgo hC0 94 2 rfl ?_
    refine And.intro (fun c => absurd (b5) c) (fun _ => ?_)
    refine zgo hC0 96 3 rfl ?_
    refine zcallV hC0 (o_lawf x b2 (j := 3) (by decide) hm) vX3_law lk5_56 (by decide +kernel : decode cL_isWell 181 = .ok (.invokevirtual 56, 3)) rfl rfl rfl (Nat.le_of_ble_eq_true rfl) (Nat.le_of_ble_eq_true rfl) (Nat.le_of_ble_eq_true rfl) ?_
    refine zgo hC0 100 3 rfl ?_
    refine zcallV hC0 (o_lawf x hi (j := 4) (by decide) hm) vX3_law lk5_56 (by decide +kernel : decode cL_isWell 188 = .ok (.invokevirtual 56, 3)) rfl rfl rfl (Nat.le_of_ble_eq_true rfl) (Nat.le_of_ble_eq_true rfl) (Nat.le_of_ble_eq_true rfl) ?_
    refine zgo hC0 104 1 rfl ?_
    refine And.intro (fun c => absurd (b6) c) (fun _ => ?_)
    refine zgo hC0 105 3 rfl ?_
    refine zcallV hC0 (o_lawf x b2 (j := 0) (by decide) hm) vX3_law lk5_56 (by decide +kernel : decode cL_isWell 198 = .ok (.invokevirtual 56, 3)) rfl rfl rfl (Nat.le_of_ble_eq_true rfl) (Nat.le_of_ble_eq_true rfl) (Nat.le_of_ble_eq_true rfl) ?_
    refine zgo hC0 109 3 rfl ?_
    refine zcallV hC0 (o_lawf x hi (j := 0) (by decide) hm) vX3_law lk5_56 (by decide +kernel : decode cL_isWell 205 = .ok (.invokevirtual 56, 3)) rfl rfl rfl (Nat.le_of_ble_eq_true rfl) (Nat.le_of_ble_eq_true rfl) (Nat.le_of_ble_eq_true rfl) ?_
    refine zgo hC0 113 1 rfl ?_
    refine And.intro (fun c => absurd b7 c) (fun _ => c211)
set_option maxHeartbeats 4000000 in
set_option maxRecDepth 20000 in
/-- the law i, whole -/
theorem wl_law (hC0 : zR 5 cL_isWell qL_isWell 11 7 156 R1 R0 C) (hG : GW S n s x.v) (hS : S < 2 ^ 20) {i : Nat} (hi : i < n) (z7 z8 z9 z10 : Option Value) (k : ∀ z7 z8 z9 z10, C 55 (wS (nI (cnt (iF x.v) (i + 1))) (zsm (iW x.v) (i + 1)) (zsm (fun i => nI (cnt (fun j => zCT x.v (nI i) (nI j)) n)) (i + 1)) (x.v 9 0) (nI (i + 1)) z7 z8 z9 z10) [] x.h) : C 55 (wS (nI (cnt (iF x.v) i)) (zsm (iW x.v) i) (zsm (fun i => nI (cnt (fun j => zCT x.v (nI i) (nI j)) n)) i) (x.v 9 0) (nI i) z7 z8 z9 z10) [] x.h := by
  have hm := hG.1
  have hn := hm.2
  have c113 : ∀ z10, C 113 (wS (nI (cnt (iF x.v) (i + 1))) (zsm (iW x.v) i) (zsm (fun i => nI (cnt (fun j => zCT x.v (nI i) (nI j)) n)) i) (x.v 9 0) (nI i) (some (.int (x.v 8 i))) (some (.int (x.v 7 i))) (some (.int (b2i (iF x.v i)))) z10) [] x.h := by
    intro z10
    have c132 : C 132 (wS (nI (cnt (iF x.v) (i + 1))) (zsm (iW x.v) (i + 1)) (zsm (fun i => nI (cnt (fun j => zCT x.v (nI i) (nI j)) n)) i) (x.v 9 0) (nI i) (some (.int (x.v 8 i))) (some (.int (x.v 7 i))) (some (.int (b2i (iF x.v i)))) z10) [] x.h := by
      refine zgo hC0 74 4 rfl ?_
      refine zcallV hC0 (o_law x hi (j := 7) (by decide) hm) vX3_law lk5_56 (by decide +kernel : decode cL_isWell 138 = .ok (.invokevirtual 56, 3)) rfl rfl rfl (Nat.le_of_ble_eq_true rfl) (Nat.le_of_ble_eq_true rfl) (Nat.le_of_ble_eq_true rfl) ?_
      refine zgo hC0 79 4 rfl ?_
      refine And.intro (fun c => absurd c (by decide)) (fun _ => ?_)
      refine wl_one hC0 hG hS hi _ _ _ _ _ ?_
      refine wl_in hC0 hG hi _ _ _ _ _ _ (fun z10 => ?_)
      refine zgo hC0 203 2 rfl ?_
      have h9 := k (some (.int (x.v 8 i))) (some (.int (x.v 7 i))) (some (.int (b2i (iF x.v i)))) z10
      rw [← nI_add i 1] at h9
      exact h9
    refine zgo hC0 63 3 rfl ?_
    cases fi : iF x.v i with
    | true =>
      rw [fi] at c132
      refine And.intro (fun c => absurd c (by decide)) (fun _ => ?_)
      refine zgo hC0 66 3 rfl ?_
      refine zcallV hC0 (o_lawf x hi (j := 0) (by decide) hm) vX3_law lk5_56 (by decide +kernel : decode cL_isWell 123 = .ok (.invokevirtual 56, 3)) rfl rfl rfl (Nat.le_of_ble_eq_true rfl) (Nat.le_of_ble_eq_true rfl) (Nat.le_of_ble_eq_true rfl) ?_
      refine zgo hC0 70 1 rfl ?_
      refine zgo hC0 72 2 rfl ?_
      have e : zsm (iW x.v) (i + 1) = zsm (iW x.v) i + x.v 2 i := by rw [zsm, iW, fi]
      rw [e] at c132
      exact c132
    | false =>
      rw [fi] at c132
      refine And.intro (fun _ => ?_) (fun q => absurd rfl q)
      refine zgo hC0 71 3 rfl ?_
      have e : zsm (iW x.v) (i + 1) = zsm (iW x.v) i + nI 0 := by rw [zsm, iW, fi]
      rw [e] at c132
      exact c132
  have c98 : ∀ z9 z10, C 98 (wS (nI (cnt (iF x.v) i)) (zsm (iW x.v) i) (zsm (fun i => nI (cnt (fun j => zCT x.v (nI i) (nI j)) n)) i) (x.v 9 0) (nI i) (some (.int (x.v 8 i))) (some (.int (x.v 7 i))) z9 z10) [.int (b2i (iF x.v i))] x.h := by
    intro z9 z10
    refine zgo hC0 54 4 rfl ?_
    cases fi : iF x.v i with
    | true =>
      rw [fi] at c113
      refine And.intro (fun c => absurd c (by decide)) (fun _ => ?_)
      refine zgo hC0 58 2 rfl ?_
      refine zgo hC0 61 2 rfl ?_
      have e : nI (cnt (iF x.v) (i + 1)) = nI (cnt (iF x.v) i) + nI 1 := (cnt_t fi).symm
      rw [e] at c113
      exact c113 _
    | false =>
      rw [fi] at c113
      refine And.intro (fun _ => ?_) (fun q => absurd rfl q)
      refine zgo hC0 60 3 rfl ?_
      have e : nI (cnt (iF x.v) (i + 1)) = nI (cnt (iF x.v) i) + nI 0 := by
        rw [← cnt_f fi]
        exact (Int32.add_zero _).symm
      rw [e] at c113
      exact c113 _
  refine zgo hC0 32 3 rfl ?_
  refine And.intro (fun c => absurd c (zge_no hm hi)) (fun _ => ?_)
  refine zgo hC0 35 3 rfl ?_
  refine zcallV hC0 (o_lawf x hi (j := 6) (by decide) hm) vX3_law lk5_56 (by decide +kernel : decode cL_isWell 67 = .ok (.invokevirtual 56, 3)) rfl rfl rfl (Nat.le_of_ble_eq_true rfl) (Nat.le_of_ble_eq_true rfl) (Nat.le_of_ble_eq_true rfl) ?_
  refine zgo hC0 39 4 rfl ?_
  refine zcallV hC0 (o_lawf x hi (j := 5) (by decide) hm) vX3_law lk5_56 (by decide +kernel : decode cL_isWell 76 = .ok (.invokevirtual 56, 3)) rfl rfl rfl (Nat.le_of_ble_eq_true rfl) (Nat.le_of_ble_eq_true rfl) (Nat.le_of_ble_eq_true rfl) ?_
  refine zgo hC0 44 4 rfl ?_
  refine zcallV hC0 (o_lawf x hi (j := 4) (by decide) hm) vX3_law lk5_56 (by decide +kernel : decode cL_isWell 85 = .ok (.invokevirtual 56, 3)) rfl rfl rfl (Nat.le_of_ble_eq_true rfl) (Nat.le_of_ble_eq_true rfl) (Nat.le_of_ble_eq_true rfl) ?_
  refine zgo hC0 49 2 rfl ?_
  cases fi : iF x.v i with
  | true =>
    rw [fi] at c98
    refine And.intro (fun c => absurd (iF_v fi) c) (fun _ => ?_)
    refine zgo hC0 51 2 rfl ?_
    exact c98 _ _
  | false =>
    rw [fi] at c98
    refine And.intro (fun _ => ?_) (fun c => absurd c (iF_nv fi))
    refine zgo hC0 53 1 rfl ?_
    exact c98 _ _
end WEL
