/-! the law's walk: where the script is read; one call on both sides -/
def lSt (i : Nat) : List (Option Value) := [some (.ref 1002), some (.ref 0), some (.ref 97), some (.int (nI i))]
/-- the script's length and what lies in it, at the number 1002 -/
def LSc (C : ZP) (L : Nat) (xs : Nat → Int32) : Prop :=
  (∀ (pc : Nat) (ls : List (Option Value)) (st : List Value) (h : List ZC), decode cL_law pc = .ok (.arraylength, 1) → C (pc + 1) ls (.int (nI L) :: st) h → C pc ls (.ref 1002 :: st) h) ∧
  ∀ (pc : Nat) (ls : List (Option Value)) (st : List Value) (h : List ZC) (y : Int32) (i : Nat), i < L → y = nI i → decode cL_law pc = .ok (.iaload, 1) → C (pc + 1) ls (.int (xs i) :: st) h → C pc ls (.int y :: .ref 1002 :: st) h
section LAW1
variable {R1 : Int32 → List ZC → Prop} {R0 : List ZC → Prop} {C : ZP} {L : Nat} {xs : Nat → Int32}
set_option maxRecDepth 20000 in
set_option maxHeartbeats 1000000 in
theorem la_set (hC : zR 5 cL_law qL_law 4 9 312 R1 R0 C) (hs : LSc C L xs) {S i : Nat} {x : ZX} {u : CV} (h : ZRl S x u) (hS : S + 200 < 2 ^ 31) (hi : i + 5 ≤ L) (k : ∀ (x2 : ZX) (u2 : CV), ZRl (S + 20) x2 u2 → C 765 (lSt i) [] (hL x2 u2)) : C 132 (lSt i) [] (hL x u) := by
  obtain ⟨v, hv, o, m, sv, fl, ps, q⟩ := x
  obtain ⟨r, x2, u2, h2, h3, h4⟩ := zz_set h hS (xs (i + 1)) (xs (i + 2))
  refine zgo hC 22 5 rfl ?_
  refine hs.2 _ _ _ _ _ (i + 1) (by omega) (nI_add i 1) (by decide +kernel) ?_
  refine zgo hC 28 4 rfl ?_
  refine hs.2 _ _ _ _ _ (i + 2) (by omega) (nI_add i 2) (by decide +kernel) ?_
  refine zcallVb (sg := zbl 0 97) hC h3 (lSB1 _ _ _) lnd1 (Nat.le_of_ble_eq_true rfl) vX3_set lk5_13 (by decide +kernel : decode cL_law 143 = .ok (.invokevirtual 13, 3)) rfl rfl rfl (Nat.le_of_ble_eq_true rfl) (Nat.le_of_ble_eq_true rfl) (Nat.le_of_ble_eq_true rfl) ?_
  refine zgo hC 34 5 rfl ?_
  refine hs.2 _ _ _ _ _ (i + 1) (by omega) (nI_add i 1) (by decide +kernel) ?_
  refine zgo hC 40 4 rfl ?_
  refine hs.2 _ _ _ _ _ (i + 2) (by omega) (nI_add i 2) (by decide +kernel) ?_
  refine zcallVb (sg := zbl 97 7) hC h4 (lSB2 _ _ _) lnd2 (Nat.le_of_ble_eq_true rfl) vX4_set lk5_17 (by decide +kernel : decode cL_law 157 = .ok (.invokevirtual 17, 3)) rfl rfl rfl (Nat.le_of_ble_eq_true rfl) (Nat.le_of_ble_eq_true rfl) (Nat.le_of_ble_eq_true rfl) ?_
  refine zgo hC 46 1 rfl ?_
  exact And.intro (fun _ => k x2 u2 h2) (fun c => absurd rfl c)
set_option maxRecDepth 20000 in
set_option maxHeartbeats 1000000 in
theorem la_wish (hC : zR 5 cL_law qL_law 4 9 312 R1 R0 C) (hs : LSc C L xs) {S i : Nat} {x : ZX} {u : CV} (h : ZRl S x u) (hS : S + 200 < 2 ^ 31) (hi : i + 5 ≤ L) (k : ∀ (x2 : ZX) (u2 : CV), ZRl (S + 20) x2 u2 → C 765 (lSt i) [] (hL x2 u2)) : C 165 (lSt i) [] (hL x u) := by
  obtain ⟨v, hv, o, m, sv, fl, ps, q⟩ := x
  obtain ⟨r, x2, u2, h2, h3, h4⟩ := zz_wish h hS (xs (i + 1)) (xs (i + 2)) (xs (i + 3))
  refine zgo hC 49 5 rfl ?_
  refine hs.2 _ _ _ _ _ (i + 1) (by omega) (nI_add i 1) (by decide +kernel) ?_
  refine zgo hC 55 4 rfl ?_
  refine hs.2 _ _ _ _ _ (i + 2) (by omega) (nI_add i 2) (by decide +kernel) ?_
  refine zgo hC 60 4 rfl ?_
  refine hs.2 _ _ _ _ _ (i + 3) (by omega) (nI_add i 3) (by decide +kernel) ?_
  refine zcallVb (sg := zbl 0 97) hC h3 (lSB1 _ _ _) lnd1 (Nat.le_of_ble_eq_true rfl) vX3_wish lk5_18 (by decide +kernel : decode cL_law 181 = .ok (.invokevirtual 18, 3)) rfl rfl rfl (Nat.le_of_ble_eq_true rfl) (Nat.le_of_ble_eq_true rfl) (Nat.le_of_ble_eq_true rfl) ?_
  refine zgo hC 66 5 rfl ?_
  refine hs.2 _ _ _ _ _ (i + 1) (by omega) (nI_add i 1) (by decide +kernel) ?_
  refine zgo hC 72 4 rfl ?_
  refine hs.2 _ _ _ _ _ (i + 2) (by omega) (nI_add i 2) (by decide +kernel) ?_
  refine zgo hC 77 4 rfl ?_
  refine hs.2 _ _ _ _ _ (i + 3) (by omega) (nI_add i 3) (by decide +kernel) ?_
  refine zcallVb (sg := zbl 97 7) hC h4 (lSB2 _ _ _) lnd2 (Nat.le_of_ble_eq_true rfl) vX4_wish lk5_22 (by decide +kernel : decode cL_law 200 = .ok (.invokevirtual 22, 3)) rfl rfl rfl (Nat.le_of_ble_eq_true rfl) (Nat.le_of_ble_eq_true rfl) (Nat.le_of_ble_eq_true rfl) ?_
  refine zgo hC 83 1 rfl ?_
  exact And.intro (fun _ => k x2 u2 h2) (fun c => absurd rfl c)
set_option maxRecDepth 20000 in
set_option maxHeartbeats 1000000 in
theorem la_propose (hC : zR 5 cL_law qL_law 4 9 312 R1 R0 C) (hs : LSc C L xs) {S i : Nat} {x : ZX} {u : CV} (h : ZRl S x u) (hS : S + 200 < 2 ^ 31) (hi : i + 5 ≤ L) (k : ∀ (x2 : ZX) (u2 : CV), ZRl (S + 20) x2 u2 → C 765 (lSt i) [] (hL x2 u2)) : C 208 (lSt i) [] (hL x u) := by
  obtain ⟨v, hv, o, m, sv, fl, ps, q⟩ := x
  obtain ⟨r, x2, u2, h2, h3, h4⟩ := zz_propose h hS (xs (i + 1)) (xs (i + 2)) (xs (i + 3)) (xs (i + 4))
  refine zgo hC 86 5 rfl ?_
  refine hs.2 _ _ _ _ _ (i + 1) (by omega) (nI_add i 1) (by decide +kernel) ?_
  refine zgo hC 92 4 rfl ?_
  refine hs.2 _ _ _ _ _ (i + 2) (by omega) (nI_add i 2) (by decide +kernel) ?_
  refine zgo hC 97 4 rfl ?_
  refine hs.2 _ _ _ _ _ (i + 3) (by omega) (nI_add i 3) (by decide +kernel) ?_
  refine zgo hC 102 4 rfl ?_
  refine hs.2 _ _ _ _ _ (i + 4) (by omega) (nI_add i 4) (by decide +kernel) ?_
  refine zcallVb (sg := zbl 0 97) hC h3 (lSB1 _ _ _) lnd1 (Nat.le_of_ble_eq_true rfl) vX3_propose lk5_23 (by decide +kernel : decode cL_law 229 = .ok (.invokevirtual 23, 3)) rfl rfl rfl (Nat.le_of_ble_eq_true rfl) (Nat.le_of_ble_eq_true rfl) (Nat.le_of_ble_eq_true rfl) ?_
  refine zgo hC 108 5 rfl ?_
  refine hs.2 _ _ _ _ _ (i + 1) (by omega) (nI_add i 1) (by decide +kernel) ?_
  refine zgo hC 114 4 rfl ?_
  refine hs.2 _ _ _ _ _ (i + 2) (by omega) (nI_add i 2) (by decide +kernel) ?_
  refine zgo hC 119 4 rfl ?_
  refine hs.2 _ _ _ _ _ (i + 3) (by omega) (nI_add i 3) (by decide +kernel) ?_
  refine zgo hC 124 4 rfl ?_
  refine hs.2 _ _ _ _ _ (i + 4) (by omega) (nI_add i 4) (by decide +kernel) ?_
  refine zcallVb (sg := zbl 97 7) hC h4 (lSB2 _ _ _) lnd2 (Nat.le_of_ble_eq_true rfl) vX4_propose lk5_27 (by decide +kernel : decode cL_law 253 = .ok (.invokevirtual 27, 3)) rfl rfl rfl (Nat.le_of_ble_eq_true rfl) (Nat.le_of_ble_eq_true rfl) (Nat.le_of_ble_eq_true rfl) ?_
  refine zgo hC 130 1 rfl ?_
  exact And.intro (fun _ => k x2 u2 h2) (fun c => absurd rfl c)
set_option maxRecDepth 20000 in
set_option maxHeartbeats 1000000 in
theorem la_repeal (hC : zR 5 cL_law qL_law 4 9 312 R1 R0 C) (hs : LSc C L xs) {S i : Nat} {x : ZX} {u : CV} (h : ZRl S x u) (hS : S + 200 < 2 ^ 31) (hi : i + 5 ≤ L) (k : ∀ (x2 : ZX) (u2 : CV), ZRl (S + 20) x2 u2 → C 765 (lSt i) [] (hL x2 u2)) : C 261 (lSt i) [] (hL x u) := by
  obtain ⟨v, hv, o, m, sv, fl, ps, q⟩ := x
  obtain ⟨r, x2, u2, h2, h3, h4⟩ := zz_repeal h hS (xs (i + 1))
  refine zgo hC 133 5 rfl ?_
  refine hs.2 _ _ _ _ _ (i + 1) (by omega) (nI_add i 1) (by decide +kernel) ?_
  refine zcallVb (sg := zbl 0 97) hC h3 (lSB1 _ _ _) lnd1 (Nat.le_of_ble_eq_true rfl) vX3_repeal lk5_28 (by decide +kernel : decode cL_law 267 = .ok (.invokevirtual 28, 3)) rfl rfl rfl (Nat.le_of_ble_eq_true rfl) (Nat.le_of_ble_eq_true rfl) (Nat.le_of_ble_eq_true rfl) ?_
  refine zgo hC 140 5 rfl ?_
  refine hs.2 _ _ _ _ _ (i + 1) (by omega) (nI_add i 1) (by decide +kernel) ?_
  refine zcallVb (sg := zbl 97 7) hC h4 (lSB2 _ _ _) lnd2 (Nat.le_of_ble_eq_true rfl) vX4_repeal lk5_32 (by decide +kernel : decode cL_law 276 = .ok (.invokevirtual 32, 3)) rfl rfl rfl (Nat.le_of_ble_eq_true rfl) (Nat.le_of_ble_eq_true rfl) (Nat.le_of_ble_eq_true rfl) ?_
  refine zgo hC 147 1 rfl ?_
  exact And.intro (fun _ => k x2 u2 h2) (fun c => absurd rfl c)
set_option maxRecDepth 20000 in
set_option maxHeartbeats 1000000 in
theorem la_endSession (hC : zR 5 cL_law qL_law 4 9 312 R1 R0 C) (hs : LSc C L xs) {S i : Nat} {x : ZX} {u : CV} (h : ZRl S x u) (hS : S + 200 < 2 ^ 31) (hi : i + 5 ≤ L) (k : ∀ (x2 : ZX) (u2 : CV), ZRl (S + 20) x2 u2 → C 765 (lSt i) [] (hL x2 u2)) : C 284 (lSt i) [] (hL x u) := by
  obtain ⟨v, hv, o, m, sv, fl, ps, q⟩ := x
  obtain ⟨r, x2, u2, h2, h3, h4⟩ := zz_endSession h hS
  refine zgo hC 150 1 rfl ?_
  refine zcallVb (sg := zbl 0 97) hC h3 (lSB1 _ _ _) lnd1 (Nat.le_of_ble_eq_true rfl) vX3_endSession lk5_33 (by decide +kernel : decode cL_law 285 = .ok (.invokevirtual 33, 3)) rfl rfl rfl (Nat.le_of_ble_eq_true rfl) (Nat.le_of_ble_eq_true rfl) (Nat.le_of_ble_eq_true rfl) ?_
  refine zgo hC 152 1 rfl ?_
  refine zcallVb (sg := zbl 97 7) hC h4 (lSB2 _ _ _) lnd2 (Nat.le_of_ble_eq_true rfl) vX4_endSession lk5_37 (by decide +kernel : decode cL_law 289 = .ok (.invokevirtual 37, 3)) rfl rfl rfl (Nat.le_of_ble_eq_true rfl) (Nat.le_of_ble_eq_true rfl) (Nat.le_of_ble_eq_true rfl) ?_
  refine zgo hC 154 1 rfl ?_
  exact And.intro (fun _ => k x2 u2 h2) (fun c => absurd rfl c)
set_option maxRecDepth 20000 in
set_option maxHeartbeats 1000000 in
theorem la_read (hC : zR 5 cL_law qL_law 4 9 312 R1 R0 C) (hs : LSc C L xs) {S i : Nat} {x : ZX} {u : CV} (h : ZRl S x u) (hS : S + 200 < 2 ^ 31) (hi : i + 5 ≤ L) (k : ∀ (x2 : ZX) (u2 : CV), ZRl (S + 20) x2 u2 → C 765 (lSt i) [] (hL x2 u2)) : C 297 (lSt i) [] (hL x u) := by
  obtain ⟨v, hv, o, m, sv, fl, ps, q⟩ := x
  obtain ⟨r, x2, u2, h2, h3, h4⟩ := zz_read h hS
  refine zgo hC 157 1 rfl ?_
  refine zcallVb (sg := zbl 0 97) hC h3 (lSB1 _ _ _) lnd1 (Nat.le_of_ble_eq_true rfl) vX3_read lk5_38 (by decide +kernel : decode cL_law 298 = .ok (.invokevirtual 38, 3)) rfl rfl rfl (Nat.le_of_ble_eq_true rfl) (Nat.le_of_ble_eq_true rfl) (Nat.le_of_ble_eq_true rfl) ?_
  refine zgo hC 159 1 rfl ?_
  refine zcallVb (sg := zbl 97 7) hC h4 (lSB2 _ _ _) lnd2 (Nat.le_of_ble_eq_true rfl) vX4_read lk5_41 (by decide +kernel : decode cL_law 302 = .ok (.invokevirtual 41, 3)) rfl rfl rfl (Nat.le_of_ble_eq_true rfl) (Nat.le_of_ble_eq_true rfl) (Nat.le_of_ble_eq_true rfl) ?_
  refine zgo hC 161 1 rfl ?_
  exact And.intro (fun _ => k x2 u2 h2) (fun c => absurd rfl c)
set_option maxRecDepth 20000 in
set_option maxHeartbeats 1000000 in
theorem la_law (hC : zR 5 cL_law qL_law 4 9 312 R1 R0 C) (hs : LSc C L xs) {S i : Nat} {x : ZX} {u : CV} (h : ZRl S x u) (hS : S + 200 < 2 ^ 31) (hi : i + 5 ≤ L) (k : ∀ (x2 : ZX) (u2 : CV), ZRl (S + 20) x2 u2 → C 765 (lSt i) [] (hL x2 u2)) : C 310 (lSt i) [] (hL x u) := by
  obtain ⟨v, hv, o, m, sv, fl, ps, q⟩ := x
  obtain ⟨r, x2, u2, h2, h3, h4⟩ := zz_law h hS (xs (i + 1)) (xs (i + 2))
  refine zgo hC 164 5 rfl ?_
  refine hs.2 _ _ _ _ _ (i + 1) (by omega) (nI_add i 1) (by decide +kernel) ?_
  refine zgo hC 170 4 rfl ?_
  refine hs.2 _ _ _ _ _ (i + 2) (by omega) (nI_add i 2) (by decide +kernel) ?_
  refine zcallVb (sg := zbl 0 97) hC h3 (lSB1 _ _ _) lnd1 (Nat.le_of_ble_eq_true rfl) vX3_law lk5_42 (by decide +kernel : decode cL_law 321 = .ok (.invokevirtual 42, 3)) rfl rfl rfl (Nat.le_of_ble_eq_true rfl) (Nat.le_of_ble_eq_true rfl) (Nat.le_of_ble_eq_true rfl) ?_
  refine zgo hC 176 5 rfl ?_
  refine hs.2 _ _ _ _ _ (i + 1) (by omega) (nI_add i 1) (by decide +kernel) ?_
  refine zgo hC 182 4 rfl ?_
  refine hs.2 _ _ _ _ _ (i + 2) (by omega) (nI_add i 2) (by decide +kernel) ?_
  refine zcallVb (sg := zbl 97 7) hC h4 (lSB2 _ _ _) lnd2 (Nat.le_of_ble_eq_true rfl) vX4_law lk5_45 (by decide +kernel : decode cL_law 335 = .ok (.invokevirtual 45, 3)) rfl rfl rfl (Nat.le_of_ble_eq_true rfl) (Nat.le_of_ble_eq_true rfl) (Nat.le_of_ble_eq_true rfl) ?_
  refine zgo hC 188 1 rfl ?_
  exact And.intro (fun _ => k x2 u2 h2) (fun c => absurd rfl c)
set_option maxRecDepth 20000 in
set_option maxHeartbeats 1000000 in
theorem la_topic (hC : zR 5 cL_law qL_law 4 9 312 R1 R0 C) (hs : LSc C L xs) {S i : Nat} {x : ZX} {u : CV} (h : ZRl S x u) (hS : S + 200 < 2 ^ 31) (hi : i + 5 ≤ L) (k : ∀ (x2 : ZX) (u2 : CV), ZRl (S + 20) x2 u2 → C 765 (lSt i) [] (hL x2 u2)) : C 343 (lSt i) [] (hL x u) := by
  obtain ⟨v, hv, o, m, sv, fl, ps, q⟩ := x
  obtain ⟨r, x2, u2, h2, h3, h4⟩ := zz_topic h hS (xs (i + 1)) (xs (i + 2))
  refine zgo hC 191 5 rfl ?_
  refine hs.2 _ _ _ _ _ (i + 1) (by omega) (nI_add i 1) (by decide +kernel) ?_
  refine zgo hC 197 4 rfl ?_
  refine hs.2 _ _ _ _ _ (i + 2) (by omega) (nI_add i 2) (by decide +kernel) ?_
  refine zcallVb (sg := zbl 0 97) hC h3 (lSB1 _ _ _) lnd1 (Nat.le_of_ble_eq_true rfl) vX3_topic lk5_46 (by decide +kernel : decode cL_law 354 = .ok (.invokevirtual 46, 3)) rfl rfl rfl (Nat.le_of_ble_eq_true rfl) (Nat.le_of_ble_eq_true rfl) (Nat.le_of_ble_eq_true rfl) ?_
  refine zgo hC 203 5 rfl ?_
  refine hs.2 _ _ _ _ _ (i + 1) (by omega) (nI_add i 1) (by decide +kernel) ?_
  refine zgo hC 209 4 rfl ?_
  refine hs.2 _ _ _ _ _ (i + 2) (by omega) (nI_add i 2) (by decide +kernel) ?_
  refine zcallVb (sg := zbl 97 7) hC h4 (lSB2 _ _ _) lnd2 (Nat.le_of_ble_eq_true rfl) vX4_topic lk5_49 (by decide +kernel : decode cL_law 368 = .ok (.invokevirtual 49, 3)) rfl rfl rfl (Nat.le_of_ble_eq_true rfl) (Nat.le_of_ble_eq_true rfl) (Nat.le_of_ble_eq_true rfl) ?_
  refine zgo hC 215 1 rfl ?_
  exact And.intro (fun _ => k x2 u2 h2) (fun c => absurd rfl c)
set_option maxRecDepth 20000 in
set_option maxHeartbeats 1000000 in
theorem la_councillor (hC : zR 5 cL_law qL_law 4 9 312 R1 R0 C) (hs : LSc C L xs) {S i : Nat} {x : ZX} {u : CV} (h : ZRl S x u) (hS : S + 200 < 2 ^ 31) (hi : i + 5 ≤ L) (k : ∀ (x2 : ZX) (u2 : CV), ZRl (S + 20) x2 u2 → C 765 (lSt i) [] (hL x2 u2)) : C 376 (lSt i) [] (hL x u) := by
  obtain ⟨v, hv, o, m, sv, fl, ps, q⟩ := x
  obtain ⟨r, x2, u2, h2, h3, h4⟩ := zz_councillor h hS (xs (i + 1)) (xs (i + 2))
  refine zgo hC 218 5 rfl ?_
  refine hs.2 _ _ _ _ _ (i + 1) (by omega) (nI_add i 1) (by decide +kernel) ?_
  refine zgo hC 224 4 rfl ?_
  refine hs.2 _ _ _ _ _ (i + 2) (by omega) (nI_add i 2) (by decide +kernel) ?_
  refine zcallVb (sg := zbl 0 97) hC h3 (lSB1 _ _ _) lnd1 (Nat.le_of_ble_eq_true rfl) vX3_councillor lk5_50 (by decide +kernel : decode cL_law 387 = .ok (.invokevirtual 50, 3)) rfl rfl rfl (Nat.le_of_ble_eq_true rfl) (Nat.le_of_ble_eq_true rfl) (Nat.le_of_ble_eq_true rfl) ?_
  refine zgo hC 230 5 rfl ?_
  refine hs.2 _ _ _ _ _ (i + 1) (by omega) (nI_add i 1) (by decide +kernel) ?_
  refine zgo hC 236 4 rfl ?_
  refine hs.2 _ _ _ _ _ (i + 2) (by omega) (nI_add i 2) (by decide +kernel) ?_
  refine zcallVb (sg := zbl 97 7) hC h4 (lSB2 _ _ _) lnd2 (Nat.le_of_ble_eq_true rfl) vX4_councillor lk5_53 (by decide +kernel : decode cL_law 401 = .ok (.invokevirtual 53, 3)) rfl rfl rfl (Nat.le_of_ble_eq_true rfl) (Nat.le_of_ble_eq_true rfl) (Nat.le_of_ble_eq_true rfl) ?_
  refine zgo hC 242 1 rfl ?_
  exact And.intro (fun _ => k x2 u2 h2) (fun c => absurd rfl c)
set_option maxRecDepth 20000 in
set_option maxHeartbeats 1000000 in
theorem la_count (hC : zR 5 cL_law qL_law 4 9 312 R1 R0 C) (hs : LSc C L xs) {S i : Nat} {x : ZX} {u : CV} (h : ZRl S x u) (hS : S + 200 < 2 ^ 31) (hi : i + 5 ≤ L) (k : ∀ (x2 : ZX) (u2 : CV), ZRl (S + 20) x2 u2 → C 765 (lSt i) [] (hL x2 u2)) : C 409 (lSt i) [] (hL x u) := by
  obtain ⟨v, hv, o, m, sv, fl, ps, q⟩ := x
  obtain ⟨r, x2, u2, h2, h3, h4⟩ := zz_count h hS (xs (i + 1))
  refine zgo hC 245 5 rfl ?_
  refine hs.2 _ _ _ _ _ (i + 1) (by omega) (nI_add i 1) (by decide +kernel) ?_
  refine zcallVb (sg := zbl 0 97) hC h3 (lSB1 _ _ _) lnd1 (Nat.le_of_ble_eq_true rfl) vX3_count lk5_54 (by decide +kernel : decode cL_law 415 = .ok (.invokevirtual 54, 3)) rfl rfl rfl (Nat.le_of_ble_eq_true rfl) (Nat.le_of_ble_eq_true rfl) (Nat.le_of_ble_eq_true rfl) ?_
  refine zgo hC 252 5 rfl ?_
  refine hs.2 _ _ _ _ _ (i + 1) (by omega) (nI_add i 1) (by decide +kernel) ?_
  refine zcallVb (sg := zbl 97 7) hC h4 (lSB2 _ _ _) lnd2 (Nat.le_of_ble_eq_true rfl) vX4_count lk5_57 (by decide +kernel : decode cL_law 424 = .ok (.invokevirtual 57, 3)) rfl rfl rfl (Nat.le_of_ble_eq_true rfl) (Nat.le_of_ble_eq_true rfl) (Nat.le_of_ble_eq_true rfl) ?_
  refine zgo hC 259 1 rfl ?_
  exact And.intro (fun _ => k x2 u2 h2) (fun c => absurd rfl c)
set_option maxRecDepth 20000 in
set_option maxHeartbeats 1000000 in
theorem la_why (hC : zR 5 cL_law qL_law 4 9 312 R1 R0 C) (hs : LSc C L xs) {S i : Nat} {x : ZX} {u : CV} (h : ZRl S x u) (hS : S + 200 < 2 ^ 31) (hi : i + 5 ≤ L) (k : ∀ (x2 : ZX) (u2 : CV), ZRl (S + 20) x2 u2 → C 765 (lSt i) [] (hL x2 u2)) : C 432 (lSt i) [] (hL x u) := by
  obtain ⟨v, hv, o, m, sv, fl, ps, q⟩ := x
  obtain ⟨r, x2, u2, h2, h3, h4⟩ := zz_why h hS (xs (i + 1)) (xs (i + 2)) (xs (i + 3)) (xs (i + 4))
  refine zgo hC 262 5 rfl ?_
  refine hs.2 _ _ _ _ _ (i + 1) (by omega) (nI_add i 1) (by decide +kernel) ?_
  refine zgo hC 268 4 rfl ?_
  refine hs.2 _ _ _ _ _ (i + 2) (by omega) (nI_add i 2) (by decide +kernel) ?_
  refine zgo hC 273 4 rfl ?_
  refine hs.2 _ _ _ _ _ (i + 3) (by omega) (nI_add i 3) (by decide +kernel) ?_
  refine zgo hC 278 4 rfl ?_
  refine hs.2 _ _ _ _ _ (i + 4) (by omega) (nI_add i 4) (by decide +kernel) ?_
  refine zcallVb (sg := zbl 0 97) hC h3 (lSB1 _ _ _) lnd1 (Nat.le_of_ble_eq_true rfl) vX3_why lk5_58 (by decide +kernel : decode cL_law 453 = .ok (.invokevirtual 58, 3)) rfl rfl rfl (Nat.le_of_ble_eq_true rfl) (Nat.le_of_ble_eq_true rfl) (Nat.le_of_ble_eq_true rfl) ?_
  refine zgo hC 284 5 rfl ?_
  refine hs.2 _ _ _ _ _ (i + 1) (by omega) (nI_add i 1) (by decide +kernel) ?_
  refine zgo hC 290 4 rfl ?_
  refine hs.2 _ _ _ _ _ (i + 2) (by omega) (nI_add i 2) (by decide +kernel) ?_
  refine zgo hC 295 4 rfl ?_
  refine hs.2 _ _ _ _ _ (i + 3) (by omega) (nI_add i 3) (by decide +kernel) ?_
  refine zgo hC 300 4 rfl ?_
  refine hs.2 _ _ _ _ _ (i + 4) (by omega) (nI_add i 4) (by decide +kernel) ?_
  refine zcallVb (sg := zbl 97 7) hC h4 (lSB2 _ _ _) lnd2 (Nat.le_of_ble_eq_true rfl) vX4_why lk5_61 (by decide +kernel : decode cL_law 477 = .ok (.invokevirtual 61, 3)) rfl rfl rfl (Nat.le_of_ble_eq_true rfl) (Nat.le_of_ble_eq_true rfl) (Nat.le_of_ble_eq_true rfl) ?_
  refine zgo hC 306 1 rfl ?_
  exact And.intro (fun _ => k x2 u2 h2) (fun c => absurd rfl c)
set_option maxRecDepth 20000 in
set_option maxHeartbeats 1000000 in
theorem la_votes (hC : zR 5 cL_law qL_law 4 9 312 R1 R0 C) (hs : LSc C L xs) {S i : Nat} {x : ZX} {u : CV} (h : ZRl S x u) (hS : S + 200 < 2 ^ 31) (hi : i + 5 ≤ L) (k : ∀ (x2 : ZX) (u2 : CV), ZRl (S + 20) x2 u2 → C 765 (lSt i) [] (hL x2 u2)) : C 485 (lSt i) [] (hL x u) := by
  obtain ⟨v, hv, o, m, sv, fl, ps, q⟩ := x
  obtain ⟨r, x2, u2, h2, h3, h4⟩ := zz_votes h hS (xs (i + 1)) (xs (i + 2)) (xs (i + 3)) (xs (i + 4))
  refine zgo hC 309 5 rfl ?_
  refine hs.2 _ _ _ _ _ (i + 1) (by omega) (nI_add i 1) (by decide +kernel) ?_
  refine zgo hC 315 4 rfl ?_
  refine hs.2 _ _ _ _ _ (i + 2) (by omega) (nI_add i 2) (by decide +kernel) ?_
  refine zgo hC 320 4 rfl ?_
  refine hs.2 _ _ _ _ _ (i + 3) (by omega) (nI_add i 3) (by decide +kernel) ?_
  refine zgo hC 325 4 rfl ?_
  refine hs.2 _ _ _ _ _ (i + 4) (by omega) (nI_add i 4) (by decide +kernel) ?_
  refine zcallVb (sg := zbl 0 97) hC h3 (lSB1 _ _ _) lnd1 (Nat.le_of_ble_eq_true rfl) vX3_votes lk5_62 (by decide +kernel : decode cL_law 506 = .ok (.invokevirtual 62, 3)) rfl rfl rfl (Nat.le_of_ble_eq_true rfl) (Nat.le_of_ble_eq_true rfl) (Nat.le_of_ble_eq_true rfl) ?_
  refine zgo hC 331 5 rfl ?_
  refine hs.2 _ _ _ _ _ (i + 1) (by omega) (nI_add i 1) (by decide +kernel) ?_
  refine zgo hC 337 4 rfl ?_
  refine hs.2 _ _ _ _ _ (i + 2) (by omega) (nI_add i 2) (by decide +kernel) ?_
  refine zgo hC 342 4 rfl ?_
  refine hs.2 _ _ _ _ _ (i + 3) (by omega) (nI_add i 3) (by decide +kernel) ?_
  refine zgo hC 347 4 rfl ?_
  refine hs.2 _ _ _ _ _ (i + 4) (by omega) (nI_add i 4) (by decide +kernel) ?_
  refine zcallVb (sg := zbl 97 7) hC h4 (lSB2 _ _ _) lnd2 (Nat.le_of_ble_eq_true rfl) vX4_votes lk5_65 (by decide +kernel : decode cL_law 530 = .ok (.invokevirtual 65, 3)) rfl rfl rfl (Nat.le_of_ble_eq_true rfl) (Nat.le_of_ble_eq_true rfl) (Nat.le_of_ble_eq_true rfl) ?_
  refine zgo hC 353 1 rfl ?_
  exact And.intro (fun _ => k x2 u2 h2) (fun c => absurd rfl c)
set_option maxRecDepth 20000 in
set_option maxHeartbeats 1000000 in
theorem la_bestRepeal (hC : zR 5 cL_law qL_law 4 9 312 R1 R0 C) (hs : LSc C L xs) {S i : Nat} {x : ZX} {u : CV} (h : ZRl S x u) (hS : S + 200 < 2 ^ 31) (hi : i + 5 ≤ L) (k : ∀ (x2 : ZX) (u2 : CV), ZRl (S + 20) x2 u2 → C 765 (lSt i) [] (hL x2 u2)) : C 538 (lSt i) [] (hL x u) := by
  obtain ⟨v, hv, o, m, sv, fl, ps, q⟩ := x
  obtain ⟨r, x2, u2, h2, h3, h4⟩ := zz_bestRepeal h hS (xs (i + 1)) (xs (i + 2)) (xs (i + 3))
  refine zgo hC 356 5 rfl ?_
  refine hs.2 _ _ _ _ _ (i + 1) (by omega) (nI_add i 1) (by decide +kernel) ?_
  refine zgo hC 362 4 rfl ?_
  refine hs.2 _ _ _ _ _ (i + 2) (by omega) (nI_add i 2) (by decide +kernel) ?_
  refine zgo hC 367 4 rfl ?_
  refine hs.2 _ _ _ _ _ (i + 3) (by omega) (nI_add i 3) (by decide +kernel) ?_
  refine zcallVb (sg := zbl 0 97) hC h3 (lSB1 _ _ _) lnd1 (Nat.le_of_ble_eq_true rfl) vX3_bestRepeal lk5_66 (by decide +kernel : decode cL_law 554 = .ok (.invokevirtual 66, 3)) rfl rfl rfl (Nat.le_of_ble_eq_true rfl) (Nat.le_of_ble_eq_true rfl) (Nat.le_of_ble_eq_true rfl) ?_
  refine zgo hC 373 5 rfl ?_
  refine hs.2 _ _ _ _ _ (i + 1) (by omega) (nI_add i 1) (by decide +kernel) ?_
  refine zgo hC 379 4 rfl ?_
  refine hs.2 _ _ _ _ _ (i + 2) (by omega) (nI_add i 2) (by decide +kernel) ?_
  refine zgo hC 384 4 rfl ?_
  refine hs.2 _ _ _ _ _ (i + 3) (by omega) (nI_add i 3) (by decide +kernel) ?_
  refine zcallVb (sg := zbl 97 7) hC h4 (lSB2 _ _ _) lnd2 (Nat.le_of_ble_eq_true rfl) vX4_bestRepeal lk5_69 (by decide +kernel : decode cL_law 573 = .ok (.invokevirtual 69, 3)) rfl rfl rfl (Nat.le_of_ble_eq_true rfl) (Nat.le_of_ble_eq_true rfl) (Nat.le_of_ble_eq_true rfl) ?_
  refine zgo hC 390 1 rfl ?_
  exact And.intro (fun _ => k x2 u2 h2) (fun c => absurd rfl c)
set_option maxRecDepth 20000 in
set_option maxHeartbeats 1000000 in
theorem la_longestBill (hC : zR 5 cL_law qL_law 4 9 312 R1 R0 C) (hs : LSc C L xs) {S i : Nat} {x : ZX} {u : CV} (h : ZRl S x u) (hS : S + 200 < 2 ^ 31) (hi : i + 5 ≤ L) (k : ∀ (x2 : ZX) (u2 : CV), ZRl (S + 20) x2 u2 → C 765 (lSt i) [] (hL x2 u2)) : C 581 (lSt i) [] (hL x u) := by
  obtain ⟨v, hv, o, m, sv, fl, ps, q⟩ := x
  obtain ⟨r, x2, u2, h2, h3, h4⟩ := zz_longestBill h hS (xs (i + 1)) (xs (i + 2))
  refine zgo hC 393 5 rfl ?_
  refine hs.2 _ _ _ _ _ (i + 1) (by omega) (nI_add i 1) (by decide +kernel) ?_
  refine zgo hC 399 4 rfl ?_
  refine hs.2 _ _ _ _ _ (i + 2) (by omega) (nI_add i 2) (by decide +kernel) ?_
  refine zcallVb (sg := zbl 0 97) hC h3 (lSB1 _ _ _) lnd1 (Nat.le_of_ble_eq_true rfl) vX3_longestBill lk5_70 (by decide +kernel : decode cL_law 592 = .ok (.invokevirtual 70, 3)) rfl rfl rfl (Nat.le_of_ble_eq_true rfl) (Nat.le_of_ble_eq_true rfl) (Nat.le_of_ble_eq_true rfl) ?_
  refine zgo hC 405 5 rfl ?_
  refine hs.2 _ _ _ _ _ (i + 1) (by omega) (nI_add i 1) (by decide +kernel) ?_
  refine zgo hC 411 4 rfl ?_
  refine hs.2 _ _ _ _ _ (i + 2) (by omega) (nI_add i 2) (by decide +kernel) ?_
  refine zcallVb (sg := zbl 97 7) hC h4 (lSB2 _ _ _) lnd2 (Nat.le_of_ble_eq_true rfl) vX4_longestBill lk5_73 (by decide +kernel : decode cL_law 606 = .ok (.invokevirtual 73, 3)) rfl rfl rfl (Nat.le_of_ble_eq_true rfl) (Nat.le_of_ble_eq_true rfl) (Nat.le_of_ble_eq_true rfl) ?_
  refine zgo hC 417 1 rfl ?_
  exact And.intro (fun _ => k x2 u2 h2) (fun c => absurd rfl c)
set_option maxRecDepth 20000 in
set_option maxHeartbeats 1000000 in
theorem la_bestBill (hC : zR 5 cL_law qL_law 4 9 312 R1 R0 C) (hs : LSc C L xs) {S i : Nat} {x : ZX} {u : CV} (h : ZRl S x u) (hS : S + 200 < 2 ^ 31) (hi : i + 5 ≤ L) (k : ∀ (x2 : ZX) (u2 : CV), ZRl (S + 20) x2 u2 → C 765 (lSt i) [] (hL x2 u2)) : C 614 (lSt i) [] (hL x u) := by
  obtain ⟨v, hv, o, m, sv, fl, ps, q⟩ := x
  obtain ⟨r, x2, u2, h2, h3, h4⟩ := zz_bestBill h hS
  refine zgo hC 420 1 rfl ?_
  refine zcallVb (sg := zbl 0 97) hC h3 (lSB1 _ _ _) lnd1 (Nat.le_of_ble_eq_true rfl) vX3_bestBill lk5_74 (by decide +kernel : decode cL_law 615 = .ok (.invokevirtual 74, 3)) rfl rfl rfl (Nat.le_of_ble_eq_true rfl) (Nat.le_of_ble_eq_true rfl) (Nat.le_of_ble_eq_true rfl) ?_
  refine zgo hC 422 1 rfl ?_
  refine zcallVb (sg := zbl 97 7) hC h4 (lSB2 _ _ _) lnd2 (Nat.le_of_ble_eq_true rfl) vX4_bestBill lk5_77 (by decide +kernel : decode cL_law 619 = .ok (.invokevirtual 77, 3)) rfl rfl rfl (Nat.le_of_ble_eq_true rfl) (Nat.le_of_ble_eq_true rfl) (Nat.le_of_ble_eq_true rfl) ?_
  refine zgo hC 424 1 rfl ?_
  exact And.intro (fun _ => k x2 u2 h2) (fun c => absurd rfl c)
set_option maxRecDepth 20000 in
set_option maxHeartbeats 1000000 in
theorem la_put (hC : zR 5 cL_law qL_law 4 9 312 R1 R0 C) (hs : LSc C L xs) {S i : Nat} {x : ZX} {u : CV} (h : ZRl S x u) (hS : S + 200 < 2 ^ 31) (hi : i + 5 ≤ L) (k : ∀ (x2 : ZX) (u2 : CV), ZRl (S + 20) x2 u2 → C 765 (lSt i) [] (hL x2 u2)) : C 627 (lSt i) [] (hL x u) := by
  obtain ⟨v, hv, o, m, sv, fl, ps, q⟩ := x
  obtain ⟨r, x2, u2, h2, h3, h4⟩ := zz_put h hS ((((xs (i + 1)).toInt64) <<< ((nI 32).toInt64 &&& 63)) ||| ((xs (i + 2)).toInt64 &&& lN 4294967295))
  refine zgo hC 427 5 rfl ?_
  refine hs.2 _ _ _ _ _ (i + 1) (by omega) (nI_add i 1) (by decide +kernel) ?_
  refine zgo hC 433 7 rfl ?_
  refine hs.2 _ _ _ _ _ (i + 2) (by omega) (nI_add i 2) (by decide +kernel) ?_
  refine zgo hC 441 4 rfl ?_
  refine zcallVb (sg := zbl 0 97) hC h3 (lSB1 _ _ _) lnd1 (Nat.le_of_ble_eq_true rfl) vX3_put lk5_80 (by decide +kernel : decode cL_law 648 = .ok (.invokevirtual 80, 3)) rfl rfl rfl (Nat.le_of_ble_eq_true rfl) (Nat.le_of_ble_eq_true rfl) (Nat.le_of_ble_eq_true rfl) ?_
  refine zgo hC 446 5 rfl ?_
  refine hs.2 _ _ _ _ _ (i + 1) (by omega) (nI_add i 1) (by decide +kernel) ?_
  refine zgo hC 452 7 rfl ?_
  refine hs.2 _ _ _ _ _ (i + 2) (by omega) (nI_add i 2) (by decide +kernel) ?_
  refine zgo hC 460 4 rfl ?_
  refine zcallVb (sg := zbl 97 7) hC h4 (lSB2 _ _ _) lnd2 (Nat.le_of_ble_eq_true rfl) vX4_put lk5_84 (by decide +kernel : decode cL_law 672 = .ok (.invokevirtual 84, 3)) rfl rfl rfl (Nat.le_of_ble_eq_true rfl) (Nat.le_of_ble_eq_true rfl) (Nat.le_of_ble_eq_true rfl) ?_
  refine zgo hC 465 1 rfl ?_
  exact And.intro (fun _ => k x2 u2 h2) (fun c => absurd rfl c)
set_option maxRecDepth 20000 in
set_option maxHeartbeats 1000000 in
theorem la_wipe (hC : zR 5 cL_law qL_law 4 9 312 R1 R0 C) (hs : LSc C L xs) {S i : Nat} {x : ZX} {u : CV} (h : ZRl S x u) (hS : S + 200 < 2 ^ 31) (hi : i + 5 ≤ L) (k : ∀ (x2 : ZX) (u2 : CV), ZRl (S + 20) x2 u2 → C 765 (lSt i) [] (hL x2 u2)) : C 680 (lSt i) [] (hL x u) := by
  obtain ⟨v, hv, o, m, sv, fl, ps, q⟩ := x
  obtain ⟨r, x2, u2, h2, h3, h4⟩ := zz_wipe h hS
  refine zgo hC 468 1 rfl ?_
  refine zcallVb (sg := zbl 0 97) hC h3 (lSB1 _ _ _) lnd1 (Nat.le_of_ble_eq_true rfl) vX3_wipe lk5_85 (by decide +kernel : decode cL_law 681 = .ok (.invokevirtual 85, 3)) rfl rfl rfl (Nat.le_of_ble_eq_true rfl) (Nat.le_of_ble_eq_true rfl) (Nat.le_of_ble_eq_true rfl) ?_
  refine zgo hC 470 1 rfl ?_
  refine zcallVb (sg := zbl 97 7) hC h4 (lSB2 _ _ _) lnd2 (Nat.le_of_ble_eq_true rfl) vX4_wipe lk5_88 (by decide +kernel : decode cL_law 685 = .ok (.invokevirtual 88, 3)) rfl rfl rfl (Nat.le_of_ble_eq_true rfl) (Nat.le_of_ble_eq_true rfl) (Nat.le_of_ble_eq_true rfl) ?_
  refine zgo hC 472 1 rfl ?_
  exact And.intro (fun _ => k x2 u2 h2) (fun c => absurd rfl c)
set_option maxRecDepth 20000 in
set_option maxHeartbeats 1000000 in
theorem la_fault (hC : zR 5 cL_law qL_law 4 9 312 R1 R0 C) (hs : LSc C L xs) {S i : Nat} {x : ZX} {u : CV} (h : ZRl S x u) (hS : S + 200 < 2 ^ 31) (hi : i + 5 ≤ L) (k : ∀ (x2 : ZX) (u2 : CV), ZRl (S + 20) x2 u2 → C 765 (lSt i) [] (hL x2 u2)) : C 693 (lSt i) [] (hL x u) := by
  obtain ⟨v, hv, o, m, sv, fl, ps, q⟩ := x
  obtain ⟨r, x2, u2, h2, h3, h4⟩ := zz_fault h hS
  refine zgo hC 475 1 rfl ?_
  refine zcallVb (sg := zbl 0 97) hC h3 (lSB1 _ _ _) lnd1 (Nat.le_of_ble_eq_true rfl) vX3_fault lk5_89 (by decide +kernel : decode cL_law 694 = .ok (.invokevirtual 89, 3)) rfl rfl rfl (Nat.le_of_ble_eq_true rfl) (Nat.le_of_ble_eq_true rfl) (Nat.le_of_ble_eq_true rfl) ?_
  refine zgo hC 477 1 rfl ?_
  refine zcallVb (sg := zbl 97 7) hC h4 (lSB2 _ _ _) lnd2 (Nat.le_of_ble_eq_true rfl) vX4_fault lk5_92 (by decide +kernel : decode cL_law 698 = .ok (.invokevirtual 92, 3)) rfl rfl rfl (Nat.le_of_ble_eq_true rfl) (Nat.le_of_ble_eq_true rfl) (Nat.le_of_ble_eq_true rfl) ?_
  refine zgo hC 479 1 rfl ?_
  exact And.intro (fun _ => k x2 u2 h2) (fun c => absurd rfl c)
set_option maxRecDepth 20000 in
set_option maxHeartbeats 1000000 in
theorem la_undo (hC : zR 5 cL_law qL_law 4 9 312 R1 R0 C) (hs : LSc C L xs) {S i : Nat} {x : ZX} {u : CV} (h : ZRl S x u) (hS : S + 200 < 2 ^ 31) (hi : i + 5 ≤ L) (k : ∀ (x2 : ZX) (u2 : CV), ZRl (S + 20) x2 u2 → C 765 (lSt i) [] (hL x2 u2)) : C 706 (lSt i) [] (hL x u) := by
  obtain ⟨v, hv, o, m, sv, fl, ps, q⟩ := x
  obtain ⟨r, x2, u2, h2, h3, h4⟩ := zz_undo h hS
  refine zgo hC 482 1 rfl ?_
  refine zcallVb (sg := zbl 0 97) hC h3 (lSB1 _ _ _) lnd1 (Nat.le_of_ble_eq_true rfl) vX3_undo lk5_93 (by decide +kernel : decode cL_law 707 = .ok (.invokevirtual 93, 3)) rfl rfl rfl (Nat.le_of_ble_eq_true rfl) (Nat.le_of_ble_eq_true rfl) (Nat.le_of_ble_eq_true rfl) ?_
  refine zgo hC 484 1 rfl ?_
  refine zcallVb (sg := zbl 97 7) hC h4 (lSB2 _ _ _) lnd2 (Nat.le_of_ble_eq_true rfl) vX4_undo lk5_96 (by decide +kernel : decode cL_law 711 = .ok (.invokevirtual 96, 3)) rfl rfl rfl (Nat.le_of_ble_eq_true rfl) (Nat.le_of_ble_eq_true rfl) (Nat.le_of_ble_eq_true rfl) ?_
  refine zgo hC 486 1 rfl ?_
  exact And.intro (fun _ => k x2 u2 h2) (fun c => absurd rfl c)
set_option maxRecDepth 20000 in
set_option maxHeartbeats 1000000 in
theorem la_save (hC : zR 5 cL_law qL_law 4 9 312 R1 R0 C) (hs : LSc C L xs) {S i : Nat} {x : ZX} {u : CV} (h : ZRl S x u) (hS : S + 200 < 2 ^ 31) (hi : i + 5 ≤ L) (k : ∀ (x2 : ZX) (u2 : CV), ZRl (S + 20) x2 u2 → C 765 (lSt i) [] (hL x2 u2)) : C 719 (lSt i) [] (hL x u) := by
  obtain ⟨v, hv, o, m, sv, fl, ps, q⟩ := x
  obtain ⟨r, x2, u2, h2, h3, h4⟩ := zz_save h hS (xs (i + 1))
  refine zgo hC 489 5 rfl ?_
  refine hs.2 _ _ _ _ _ (i + 1) (by omega) (nI_add i 1) (by decide +kernel) ?_
  refine zcallVb (sg := zbl 0 97) hC h3 (lSB1 _ _ _) lnd1 (Nat.le_of_ble_eq_true rfl) vX3_save lk5_97 (by decide +kernel : decode cL_law 725 = .ok (.invokevirtual 97, 3)) rfl rfl rfl (Nat.le_of_ble_eq_true rfl) (Nat.le_of_ble_eq_true rfl) (Nat.le_of_ble_eq_true rfl) ?_
  refine zgo hC 496 5 rfl ?_
  refine hs.2 _ _ _ _ _ (i + 1) (by omega) (nI_add i 1) (by decide +kernel) ?_
  refine zcallVb (sg := zbl 97 7) hC h4 (lSB2 _ _ _) lnd2 (Nat.le_of_ble_eq_true rfl) vX4_save lk5_100 (by decide +kernel : decode cL_law 734 = .ok (.invokevirtual 100, 3)) rfl rfl rfl (Nat.le_of_ble_eq_true rfl) (Nat.le_of_ble_eq_true rfl) (Nat.le_of_ble_eq_true rfl) ?_
  refine zgo hC 503 1 rfl ?_
  exact And.intro (fun _ => k x2 u2 h2) (fun c => absurd rfl c)
set_option maxRecDepth 20000 in
set_option maxHeartbeats 1000000 in
theorem la_restore (hC : zR 5 cL_law qL_law 4 9 312 R1 R0 C) (hs : LSc C L xs) {S i : Nat} {x : ZX} {u : CV} (h : ZRl S x u) (hS : S + 200 < 2 ^ 31) (hi : i + 5 ≤ L) (k : ∀ (x2 : ZX) (u2 : CV), ZRl (S + 20) x2 u2 → C 765 (lSt i) [] (hL x2 u2)) : C 742 (lSt i) [] (hL x u) := by
  obtain ⟨v, hv, o, m, sv, fl, ps, q⟩ := x
  obtain ⟨r, x2, u2, h2, h3, h4⟩ := zz_restore h hS (xs (i + 1))
  refine zgo hC 506 5 rfl ?_
  refine hs.2 _ _ _ _ _ (i + 1) (by omega) (nI_add i 1) (by decide +kernel) ?_
  refine zcallVb (sg := zbl 0 97) hC h3 (lSB1 _ _ _) lnd1 (Nat.le_of_ble_eq_true rfl) vX3_restore lk5_101 (by decide +kernel : decode cL_law 748 = .ok (.invokevirtual 101, 3)) rfl rfl rfl (Nat.le_of_ble_eq_true rfl) (Nat.le_of_ble_eq_true rfl) (Nat.le_of_ble_eq_true rfl) ?_
  refine zgo hC 513 5 rfl ?_
  refine hs.2 _ _ _ _ _ (i + 1) (by omega) (nI_add i 1) (by decide +kernel) ?_
  refine zcallVb (sg := zbl 97 7) hC h4 (lSB2 _ _ _) lnd2 (Nat.le_of_ble_eq_true rfl) vX4_restore lk5_104 (by decide +kernel : decode cL_law 757 = .ok (.invokevirtual 104, 3)) rfl rfl rfl (Nat.le_of_ble_eq_true rfl) (Nat.le_of_ble_eq_true rfl) (Nat.le_of_ble_eq_true rfl) ?_
  refine zgo hC 520 1 rfl ?_
  exact And.intro (fun _ => k x2 u2 h2) (fun c => absurd rfl c)
end LAW1
