/-! RepealedLawsModel: its loops -/
theorem zmge_rf {v : CV} {a : Nat → Int32} {n : Nat} (hm : WM v n) (hr : RM v a) : a 4 ≤ nI n := by rw [hr.2.2.1]; exact zge_rf hm
theorem zmge_no {v : CV} {a : Nat → Int32} {n i : Nat} (hm : WM v n) (hr : RM v a) (hi : i < n) : ¬ a 4 ≤ nI i := by rw [hr.2.2.1]; exact zge_no hm hi
theorem cnt_t2 {p : Nat → Bool} {i : Nat} (h : p i = true) : nI (cnt p i) + nI 1 = nI (cnt p (i + 1)) := cnt_t h
theorem cnt_f2 {p : Nat → Bool} {i : Nat} (h : p i = false) : nI (cnt p i) + nI 0 = nI (cnt p (i + 1)) := by rw [zadd0]; exact cnt_f h
set_option maxHeartbeats 2000000 in
set_option maxRecDepth 20000 in
theorem mX4_against (v u : CV) (j : Nat) (hj : j < 80) (n : Nat) (hm : WM v n) (hr : RM v (u 0)) : ZM yX4_against cX4_against 4 (some .int) 3 65 [.ref 0, .int (nI j)] (hM u) (some (.int (nI (cnt (fun k => iCT v k j) n)))) (hM u) := by
  refine zm_of 4 qX4_against rfl rfl kX4_against rfl (Nat.le_of_ble_eq_true rfl) (fun C hC0 => ?_)
  have hn := hm.2
  refine zgo hC0 0 4 rfl ?_
  refine zloop n (fun i => ∀ a x : Int32, a = nI (cnt (fun k => iCT v k j) i) → x = nI i → C 4 [some (.ref 0), some (.int (nI j)), some (.int a), some (.int x)] [] (hM u)) ?_ ?_ _ _ rfl rfl
  · rintro a x rfl rfl
    refine zgo hC0 4 6 rfl ?_
    refine And.intro z596 (And.intro (fun _ => ?_) (fun (c : ¬ u 0 4 ≤ nI n) => absurd (zmge_rf hm hr) c))
    refine zgo hC0 23 2 rfl ?_
    exact zret_i rfl
  · rintro i hi ih a x rfl rfl
    refine zgo hC0 4 6 rfl ?_
    refine And.intro z596 (And.intro (fun (c : u 0 4 ≤ nI i) => absurd c (zmge_no hm hr hi)) (fun _ => ?_))
    refine zgo hC0 10 4 rfl ?_
    refine zcallV hC0 (mX4_contradict v u i j (by omega) hj hr) vX4_contradict lk4_48 (by decide +kernel : decode cX4_against 18 = .ok (.invokevirtual 48, 3)) rfl rfl rfl (Nat.le_of_ble_eq_true rfl) (Nat.le_of_ble_eq_true rfl) (Nat.le_of_ble_eq_true rfl) ?_
    refine zgo hC0 15 1 rfl ?_
    refine And.intro (fun c => ?_) (fun c => ?_)
    · refine zgo hC0 18 5 rfl ?_
      exact ih _ _ (cnt_f2 (p := fun k => iCT v k j) (b2i_f c)) (nI_add i 1)
    · refine zgo hC0 16 2 rfl ?_
      refine zgo hC0 19 4 rfl ?_
      exact ih _ _ (cnt_t2 (p := fun k => iCT v k j) (b2i_t c)) (nI_add i 1)
/-- the laws in force in a topic, or in all -/
def iFT (v : CV) (t : Int32) (k : Nat) : Bool := iF v k && (decide (t = -(nI 6)) || decide (v 3 k = t))
set_option maxHeartbeats 2000000 in
set_option maxRecDepth 20000 in
theorem mX4_inForce (v u : CV) (t : Int32) (n : Nat) (hm : WM v n) (hr : RM v (u 0)) : ZM yX4_inForce cX4_inForce 4 (some .int) 2 43 [.ref 0, .int t] (hM u) (some (.int (nI (cnt (iFT v t) n)))) (hM u) := by
  refine zm_of 4 qX4_inForce rfl rfl kX4_inForce rfl (Nat.le_of_ble_eq_true rfl) (fun C hC0 => ?_)
  have hn := hm.2
  refine zgo hC0 0 4 rfl ?_
  refine zloop n (fun i => ∀ a x : Int32, a = nI (cnt (iFT v t) i) → x = nI i → C 4 [some (.ref 0), some (.int t), some (.int a), some (.int x)] [] (hM u)) ?_ ?_ _ _ rfl rfl
  · rintro a x rfl rfl
    refine zgo hC0 4 6 rfl ?_
    refine And.intro z596 (And.intro (fun _ => ?_) (fun (c : ¬ u 0 4 ≤ nI n) => absurd (zmge_rf hm hr) c))
    refine zgo hC0 31 2 rfl ?_
    exact zret_i rfl
  · rintro i hi ih a x rfl rfl
    have no : iFT v t i = false → C 43 [some (.ref 0), some (.int t), some (.int (nI (cnt (iFT v t) i))), some (.int (nI i))] [.int (nI (cnt (iFT v t) i))] (hM u) := by
      intro hq
      refine zgo hC0 26 5 rfl ?_
      exact ih _ _ (cnt_f2 hq) (nI_add i 1)
    have yes : iFT v t i = true → C 39 [some (.ref 0), some (.int t), some (.int (nI (cnt (iFT v t) i))), some (.int (nI i))] [.int (nI (cnt (iFT v t) i))] (hM u) := by
      intro hq
      refine zgo hC0 24 2 rfl ?_
      refine zgo hC0 27 4 rfl ?_
      exact ih _ _ (cnt_t2 hq) (nI_add i 1)
    refine zgo hC0 4 6 rfl ?_
    refine And.intro z596 (And.intro (fun (c : u 0 4 ≤ nI i) => absurd c (zmge_no hm hr hi)) (fun _ => ?_))
    refine zgo hC0 10 3 rfl ?_
    refine zcallV hC0 (mX4_isInForce v u i (by omega) hr) vX4_isInForce lk4_44 (by decide +kernel : decode cX4_inForce 17 = .ok (.invokevirtual 44, 3)) rfl rfl rfl (Nat.le_of_ble_eq_true rfl) (Nat.le_of_ble_eq_true rfl) (Nat.le_of_ble_eq_true rfl) ?_
    refine zgo hC0 14 1 rfl ?_
    refine And.intro (fun c => no (zand_f1 (b2i_f c))) (fun c => ?_)
    refine zgo hC0 15 3 rfl ?_
    refine And.intro (fun (c2 : t = -(nI 6)) => yes (zand_t (b2i_t c) (by rw [decide_eq_true c2]; rfl))) (fun (c2 : ¬ t = -(nI 6)) => ?_)
    refine zgo hC0 18 3 rfl ?_
    refine zcallV hC0 (mX4_get v u i 1 (by omega) (by decide) hr) vX4_get lk4_40 (by decide +kernel : decode cX4_inForce 32 = .ok (.invokevirtual 40, 3)) rfl rfl rfl (Nat.le_of_ble_eq_true rfl) (Nat.le_of_ble_eq_true rfl) (Nat.le_of_ble_eq_true rfl) ?_
    refine zgo hC0 22 2 rfl ?_
    refine And.intro (fun (c3 : ¬ v 3 i = t) => no (zand_f2 (by rw [decide_eq_false c2, decide_eq_false c3]; rfl))) (fun (c3 : v 3 i = t) => yes (zand_t (b2i_t c) (by rw [decide_eq_true c3, Bool.or_true])))
/-- what the best so far is -/
theorem zho_inv (v : CV) (t : Int32) : ∀ i, zho v t i = (-(nI 6), nI 0) ∨ ∃ j, j < i ∧ zho v t i = (nI j, v 2 j) ∧ iT v t j = true
  | 0 => Or.inl rfl
  | i + 1 => by
    rw [zho]
    by_cases c : iT v t i = true ∧ ¬ v 2 i < (zho v t i).2
    · rw [if_pos c]
      exact Or.inr ⟨i, Nat.lt_succ_self i, rfl, c.1⟩
    · rw [if_neg c]
      rcases zho_inv v t i with h | ⟨j, h1, h2⟩
      · exact Or.inl h
      · exact Or.inr ⟨j, Nat.lt_succ_of_lt h1, h2⟩
theorem nI_ne_m6 {j : Nat} (h : j < 1000) : ¬ nI j = -(nI 6) := by
  intro q
  have h1 := nI_toInt (n := j) (by omega)
  rw [q] at h1
  have h2 : (-(nI 6)).toInt = -6 := by decide
  omega
set_option maxHeartbeats 2000000 in
set_option maxRecDepth 20000 in
theorem mX4_holder (v u : CV) (t : Int32) (n : Nat) (hm : WM v n) (hl : WL v n) (hr : RM v (u 0)) : ZM yX4_holder cX4_holder 4 (some .int) 2 43 [.ref 0, .int t] (hM u) (some (.int (zH v t n))) (hM u) := by
  refine zm_of 4 qX4_holder rfl rfl kX4_holder rfl (Nat.le_of_ble_eq_true rfl) (fun C hC0 => ?_)
  have hn := hm.2
  refine zgo hC0 0 4 rfl ?_
  refine zloop n (fun i => ∀ a x : Int32, a = (zho v t i).1 → x = nI i → C 5 [some (.ref 0), some (.int t), some (.int a), some (.int x)] [] (hM u)) ?_ ?_ _ _ rfl rfl
  · rintro a x rfl rfl
    refine zgo hC0 4 6 rfl ?_
    refine And.intro z596 (And.intro (fun _ => ?_) (fun (c : ¬ u 0 4 ≤ nI n) => absurd (zmge_rf hm hr) c))
    refine zgo hC0 38 2 rfl ?_
    exact zret_i rfl
  · rintro i hi ih a x rfl rfl
    have same : zho v t (i + 1) = zho v t i → ∀ st : List Value, C 60 [some (.ref 0), some (.int t), some (.int (zho v t i).1), some (.int (nI i))] [] (hM u) := by
      intro hq st
      refine zgo hC0 36 2 rfl ?_
      exact ih _ _ (by rw [hq]) (nI_add i 1)
    have no : ¬ (iT v t i = true ∧ ¬ v 2 i < (zho v t i).2) → C 60 [some (.ref 0), some (.int t), some (.int (zho v t i).1), some (.int (nI i))] [] (hM u) := fun hq => same (by rw [zho, if_neg hq]) []
    have yes : (iT v t i = true ∧ ¬ v 2 i < (zho v t i).2) → C 54 [some (.ref 0), some (.int t), some (.int (zho v t i).1), some (.int (nI i))] [] (hM u) := by
      intro hq
      refine zgo hC0 32 2 rfl ?_
      refine zgo hC0 35 3 rfl ?_
      exact ih _ _ (by rw [zho, if_pos hq]) (nI_add i 1)
    refine zgo hC0 4 6 rfl ?_
    refine And.intro z596 (And.intro (fun (c : u 0 4 ≤ nI i) => absurd c (zmge_no hm hr hi)) (fun _ => ?_))
    refine zgo hC0 10 2 rfl ?_
    refine zcallV hC0 (mX4_isInForce v u i (by omega) hr) vX4_isInForce lk4_44 (by decide +kernel : decode cX4_holder 17 = .ok (.invokevirtual 44, 3)) rfl rfl rfl (Nat.le_of_ble_eq_true rfl) (Nat.le_of_ble_eq_true rfl) (Nat.le_of_ble_eq_true rfl) ?_
    refine zgo hC0 13 1 rfl ?_
    refine And.intro (fun c => no (fun q => by rw [iT, b2i_f c] at q; exact absurd q.1 (by simp))) (fun c => ?_)
    refine zgo hC0 14 3 rfl ?_
    refine zcallV hC0 (mX4_get v u i 1 (by omega) (by decide) hr) vX4_get lk4_40 (by decide +kernel : decode cX4_holder 26 = .ok (.invokevirtual 40, 3)) rfl rfl rfl (Nat.le_of_ble_eq_true rfl) (Nat.le_of_ble_eq_true rfl) (Nat.le_of_ble_eq_true rfl) ?_
    refine zgo hC0 18 2 rfl ?_
    refine And.intro (fun (c2 : ¬ v 3 i = t) => no (fun q => by rw [iT, decide_eq_false c2, Bool.and_false] at q; exact absurd q.1 (by simp))) (fun (c2 : v 3 i = t) => ?_)
    have hT : iT v t i = true := zand_t (b2i_t c) (decide_eq_true c2)
    obtain ⟨⟨la, l1, l2, l3⟩, -⟩ := hl i hi
    rcases zho_inv v t i with h | ⟨j, h1, h2, -⟩
    · refine zgo hC0 20 3 rfl ?_
      refine And.intro (fun _ => yes ⟨hT, by rw [h, l3]; exact nI_nlt (by omega) (by omega)⟩) (fun (c3 : ¬ (zho v t i).1 = -(nI 6)) => absurd (by rw [h]) c3)
    · have e1 : (zho v t i).1 = nI j := by rw [h2]
      have e2 : (zho v t i).2 = v 2 j := by rw [h2]
      rw [e2] at yes no
      rw [e1] at yes no ⊢
      refine zgo hC0 20 3 rfl ?_
      refine And.intro (fun (c3 : nI j = -(nI 6)) => absurd c3 (nI_ne_m6 (by omega))) (fun _ => ?_)
      refine zgo hC0 23 3 rfl ?_
      refine zcallV hC0 (mX4_get v u i 0 (by omega) (by decide) hr) vX4_get lk4_40 (by decide +kernel : decode cX4_holder 42 = .ok (.invokevirtual 40, 3)) rfl rfl rfl (Nat.le_of_ble_eq_true rfl) (Nat.le_of_ble_eq_true rfl) (Nat.le_of_ble_eq_true rfl) ?_
      refine zgo hC0 27 3 rfl ?_
      refine zcallV hC0 (mX4_get v u j 0 (by omega) (by decide) hr) vX4_get lk4_40 (by decide +kernel : decode cX4_holder 48 = .ok (.invokevirtual 40, 3)) rfl rfl rfl (Nat.le_of_ble_eq_true rfl) (Nat.le_of_ble_eq_true rfl) (Nat.le_of_ble_eq_true rfl) ?_
      refine zgo hC0 31 1 rfl ?_
      refine And.intro (fun (c3 : v 2 i < v 2 j) => ?_) (fun (c3 : ¬ v 2 i < v 2 j) => yes ⟨hT, c3⟩)
      refine zgo hC0 34 2 rfl ?_
      exact no (fun q => q.2 c3)
theorem zL_m6 (v : CV) : zL v (-(nI 6)) = false := zL_no1 (by decide)
set_option maxHeartbeats 2000000 in
set_option maxRecDepth 20000 in
theorem mX4_holds (v u : CV) (t : Int32) (n : Nat) (hm : WM v n) (hl : WL v n) (hr : RM v (u 0)) : ZM yX4_holds cX4_holds 3 (some .int) 3 66 [.ref 0, .int t] (hM u) (some (.int (zST v t n))) (hM u) := by
  refine zm_of 4 qX4_holds rfl rfl kX4_holds rfl (Nat.le_of_ble_eq_true rfl) (fun C hC0 => ?_)
  have hn := hm.2
  refine zgo hC0 0 2 rfl ?_
  refine zcallV hC0 (mX4_holder v u t n hm hl hr) vX4_holder lk4_52 (by decide +kernel : decode cX4_holds 2 = .ok (.invokevirtual 52, 3)) rfl rfl rfl (Nat.le_of_ble_eq_true rfl) (Nat.le_of_ble_eq_true rfl) (Nat.le_of_ble_eq_true rfl) ?_
  rcases zho_inv v t n with h | ⟨j, h1, h2, -⟩
  · have e : zH v t n = -(nI 6) := by rw [zH, h]
    rw [e]
    refine zgo hC0 3 4 rfl ?_
    refine And.intro (fun c => absurd rfl c) (fun _ => ?_)
    refine zgo hC0 7 2 rfl ?_
    refine zgo hC0 13 1 rfl ?_
    exact zret_i (by rw [zST, e, zL_m6]; rfl)
  · have e : zH v t n = nI j := by rw [zH, h2]
    rw [e]
    refine zgo hC0 3 4 rfl ?_
    refine And.intro (fun _ => ?_) (fun (c : nI j = -(nI 6)) => absurd c (nI_ne_m6 (by omega)))
    refine zgo hC0 9 3 rfl ?_
    refine zcallV hC0 (mX4_get v u j 2 (by omega) (by decide) hr) vX4_get lk4_40 (by decide +kernel : decode cX4_holds 20 = .ok (.invokevirtual 40, 3)) rfl rfl rfl (Nat.le_of_ble_eq_true rfl) (Nat.le_of_ble_eq_true rfl) (Nat.le_of_ble_eq_true rfl) ?_
    refine zgo hC0 13 1 rfl ?_
    exact zret_i (by rw [zST, e, zL_at hm h1, zcl hn h1])
def zpsm (v : CV) (t : Int32) (n : Nat) : Nat → Nat
  | 0 => 0
  | k + 1 => zpsm v t n k + (match decide (t = -(nI 6)) || decide (v 3 k = t) with
    | true => cnt (fun i => iCT v i k) n
    | false => 0)
theorem zpsm_le (v : CV) (t : Int32) (n : Nat) : ∀ k, zpsm v t n k ≤ k * n
  | 0 => Nat.zero_le _
  | k + 1 => by
    have h1 := zpsm_le v t n k
    have h2 := cnt_le (fun i => iCT v i k) n
    rw [zpsm, Nat.succ_mul]
    split <;> omega
set_option maxHeartbeats 2000000 in
set_option maxRecDepth 20000 in
theorem mX4_pairs (v u : CV) (t : Int32) (n : Nat) (hm : WM v n) (hr : RM v (u 0)) : ZM yX4_pairs cX4_pairs 4 (some .int) 4 88 [.ref 0, .int t] (hM u) (some (.int (nI (zpsm v t n n / 2)))) (hM u) := by
  refine zm_of 4 qX4_pairs rfl rfl kX4_pairs rfl (Nat.le_of_ble_eq_true rfl) (fun C hC0 => ?_)
  have hn := hm.2
  refine zgo hC0 0 4 rfl ?_
  refine zloop n (fun i => ∀ a x : Int32, a = nI (zpsm v t n i) → x = nI i → C 4 [some (.ref 0), some (.int t), some (.int a), some (.int x)] [] (hM u)) ?_ ?_ _ _ rfl rfl
  · rintro a x rfl rfl
    refine zgo hC0 4 6 rfl ?_
    refine And.intro z596 (And.intro (fun _ => ?_) (fun (c : ¬ u 0 4 ≤ nI n) => absurd (zmge_rf hm hr) c))
    refine zgo hC0 29 4 rfl ?_
    refine And.intro (by decide) ?_
    refine zret_i ?_
    have h1 := zpsm_le v t n n
    have h2 : n * n ≤ 80 * 80 := Nat.mul_le_mul hn hn
    exact (pk_div (by omega) (by decide) (by decide)).symm
  · rintro i hi ih a x rfl rfl
    have no : (decide (t = -(nI 6)) || decide (v 3 i = t)) = false → C 39 [some (.ref 0), some (.int t), some (.int (nI (zpsm v t n i))), some (.int (nI i))] [.int (nI (zpsm v t n i))] (hM u) := by
      intro hq
      refine zgo hC0 24 5 rfl ?_
      exact ih _ _ (by rw [zpsm, hq]; exact zadd0 _) (nI_add i 1)
    have yes : (decide (t = -(nI 6)) || decide (v 3 i = t)) = true → C 31 [some (.ref 0), some (.int t), some (.int (nI (zpsm v t n i))), some (.int (nI i))] [.int (nI (zpsm v t n i))] (hM u) := by
      intro hq
      refine zgo hC0 20 2 rfl ?_
      refine zcallV hC0 (mX4_against v u i (by omega) n hm hr) vX4_against lk4_56 (by decide +kernel : decode cX4_pairs 33 = .ok (.invokevirtual 56, 3)) rfl rfl rfl (Nat.le_of_ble_eq_true rfl) (Nat.le_of_ble_eq_true rfl) (Nat.le_of_ble_eq_true rfl) ?_
      refine zgo hC0 23 1 rfl ?_
      refine zgo hC0 25 4 rfl ?_
      exact ih _ _ (by rw [zpsm, hq]; exact nI_add _ _) (nI_add i 1)
    refine zgo hC0 4 6 rfl ?_
    refine And.intro z596 (And.intro (fun (c : u 0 4 ≤ nI i) => absurd c (zmge_no hm hr hi)) (fun _ => ?_))
    refine zgo hC0 10 4 rfl ?_
    refine And.intro (fun (c2 : t = -(nI 6)) => yes (by rw [decide_eq_true c2]; rfl)) (fun (c2 : ¬ t = -(nI 6)) => ?_)
    refine zgo hC0 14 3 rfl ?_
    refine zcallV hC0 (mX4_get v u i 1 (by omega) (by decide) hr) vX4_get lk4_40 (by decide +kernel : decode cX4_pairs 24 = .ok (.invokevirtual 40, 3)) rfl rfl rfl (Nat.le_of_ble_eq_true rfl) (Nat.le_of_ble_eq_true rfl) (Nat.le_of_ble_eq_true rfl) ?_
    refine zgo hC0 18 2 rfl ?_
    refine And.intro (fun (c3 : ¬ v 3 i = t) => no (by rw [decide_eq_false c2, decide_eq_false c3]; rfl)) (fun (c3 : v 3 i = t) => yes (by rw [decide_eq_true c3, Bool.or_true]))
