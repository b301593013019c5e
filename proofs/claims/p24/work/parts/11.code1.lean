/-! RepealedLaws.Code: what its cells are, its plain methods. v f i: of field f the place i (0 settings, 1 wishes, 2 lengths .. 8 repealedBy, 9 made, 10 session, 11 failures) -/
abbrev CV : Type := Nat → Nat → Int32
def hC (v : CV) : List ZC := [.inr (.inl (0, [.ref 1, .ref 2, .ref 3, .ref 4, .ref 5, .ref 6, .ref 7, .ref 8, .ref 9, .int (v 9 0), .int (v 10 0), .int (v 11 0)])), .inl (0, 3, v 0), .inl (0, 30, v 1), .inl (0, 80, v 2), .inl (0, 80, v 3), .inl (0, 80, v 4), .inl (0, 80, v 5), .inl (0, 80, v 6), .inl (0, 80, v 7), .inl (0, 80, v 8)]
def b2i (b : Bool) : Int32 := match b with
  | true => nI 1
  | false => nI 0
theorem b2i_nar (b : Bool) : narrow .boolean (.int (b2i b)) = .int (b2i b) := by cases b <;> decide
theorem b2i_0 {b : Bool} : b2i b = 0 ↔ b = false := by cases b <;> decide
theorem b2i_t {b : Bool} (h : ¬ b2i b = 0) : b = true := by cases b <;> simp_all [b2i]; exact absurd rfl h
theorem b2i_f {b : Bool} (h : b2i b = 0) : b = false := b2i_0.mp h
theorem zin {x : Int32} {n : Nat} (hn : n < 2 ^ 31) (h0 : ¬ x < 0) (h1 : ¬ nI n ≤ x) : vp_in x n := by
  rcases pk_ix x hn with h | h | ⟨j, hj, rfl⟩
  · exact absurd h h0
  · exact absurd h h1
  · exact vp_in_nI hj hn
def zL (v : CV) (x : Int32) : Bool := decide (¬ x < 0) && decide (¬ v 9 0 ≤ x)
def iF (v : CV) (j : Nat) : Bool := decide (v 6 j = -(nI 6))
def zF (v : CV) (x : Int32) : Bool := zL v x && iF v x.toNatClampNeg
/-- the laws made are n, at most 80 -/
def WM (v : CV) (n : Nat) : Prop := v 9 0 = nI n ∧ n ≤ 80
theorem zin' {x : Int32} {n : Nat} (hn : n < 2 ^ 31) (h0 : ¬ x < 0) (h1 : ¬ nI n ≤ x) : ∃ j, j < n ∧ x = nI j := by
  rcases pk_ix x hn with h | h | h
  · exact absurd h h0
  · exact absurd h h1
  · exact h
theorem zL_nI {v : CV} {n : Nat} {x : Int32} (hm : WM v n) (h : zL v x = true) : ∃ j, j < n ∧ x = nI j := by
  simp only [zL, Bool.and_eq_true, decide_eq_true_eq, hm.1] at h
  exact zin' (by have := hm.2; omega) h.1 h.2
theorem zL_in {v : CV} {n : Nat} {x : Int32} (hm : WM v n) (h : zL v x = true) : vp_in x 80 := by
  simp only [zL, Bool.and_eq_true, decide_eq_true_eq, hm.1] at h
  have h2 := hm.2
  rcases vp_in_of (zin (by omega) h.1 h.2) (by omega) with ⟨j, hj, rfl⟩
  exact vp_in_nI (by omega) (by omega)
theorem zret_b {b : Bool} {x : Int32} {h : List ZC} (e : b2i b = x) : zR1 (some .boolean) (some (.int (b2i b))) h x h := ⟨by rw [← e]; exact b2i_nar b, by rw [e], rfl⟩
theorem zret_i {r x : Int32} {h : List ZC} (e : r = x) : zR1 (some .int) (some (.int r)) h x h := ⟨rfl, by rw [e], rfl⟩
theorem zL_no1 {v : CV} {x : Int32} (h : x < 0) : zL v x = false := by simp [zL, h]
theorem zL_no2 {v : CV} {x : Int32} (h : v 9 0 ≤ x) : zL v x = false := by simp [zL, h]
theorem zL_yes {v : CV} {x : Int32} (h1 : ¬ x < 0) (h2 : ¬ v 9 0 ≤ x) : zL v x = true := by simp only [zL, h1, h2]; rfl
def zFI (v : CV) (x t : Int32) : Bool := zF v x && decide (v 3 x.toNatClampNeg = t)
def zLK (v : CV) (x l t s : Int32) : Bool := zL v x && (decide (v 2 x.toNatClampNeg = l) && (decide (v 3 x.toNatClampNeg = t) && decide (v 4 x.toNatClampNeg = s)))
def zCT (v : CV) (x y : Int32) : Bool := zF v x && (zF v y && (decide (v 3 x.toNatClampNeg = v 3 y.toNatClampNeg) && decide (¬ v 4 x.toNatClampNeg = v 4 y.toNatClampNeg)))
def zWo (v : CV) (c t : Int32) : Int32 := if c * nI 6 + t < 0 then nI 3 else if nI 30 ≤ c * nI 6 + t then nI 3 else v 1 (c * nI 6 + t).toNatClampNeg
def vup (v : CV) (f : Nat) (g : Nat → Int32) : CV := fun f' => match Nat.beq f' f with
  | true => g
  | false => v f'
theorem zF_L {v : CV} {x : Int32} (h : zF v x = true) : zL v x = true := by
  simp only [zF, Bool.and_eq_true] at h
  exact h.1
theorem zF_in {v : CV} {n : Nat} {x : Int32} (hm : WM v n) (h : zF v x = true) : vp_in x 80 := zL_in hm (zF_L h)
theorem zand_t {b c : Bool} (h1 : b = true) (h2 : c = true) : (b && c) = true := by rw [h1, h2]; rfl
theorem zand_f1 {b c : Bool} (h1 : b = false) : (b && c) = false := by rw [h1]; rfl
theorem zand_f2 {b c : Bool} (h2 : c = false) : (b && c) = false := by rw [h2]; cases b <;> rfl
theorem zb1 {b : Bool} (h : b = true) : b2i b = nI 1 := by rw [h]; rfl
theorem zb0 {b : Bool} (h : b = false) : b2i b = nI 0 := by rw [h]; rfl
set_option maxHeartbeats 2000000 in
set_option maxRecDepth 20000 in
theorem mX0_isLaw (v : CV) (x : Int32) : ZM yX0_isLaw cX0_isLaw 2 (some .boolean) 0 0 [.ref 0, .int x] (hC v) (some (.int (b2i (zL v x)))) (hC v) := by
  refine zm_of 0 qX0_isLaw rfl rfl kX0_isLaw rfl (Nat.le_of_ble_eq_true rfl) (fun C hC0 => ?_)
  refine zgo hC0 0 2 rfl ?_
  refine And.intro (fun c => ?_) (fun c => ?_)
  · refine zgo hC0 8 2 rfl ?_
    exact zret_b (by rw [zL_no1 c]; rfl)
  · refine zgo hC0 2 4 rfl ?_
    refine And.intro (fun c2 => ?_) (fun c2 => ?_)
    · refine zgo hC0 8 2 rfl ?_
      exact zret_b (by rw [zL_no2 c2]; rfl)
    · refine zgo hC0 6 2 rfl ?_
      refine zgo hC0 9 1 rfl ?_
      exact zret_b (by rw [zL_yes c c2]; rfl)
set_option maxHeartbeats 2000000 in
set_option maxRecDepth 20000 in
theorem mX0_inForce (v : CV) (x : Int32) (n : Nat) (hm : WM v n) : ZM yX0_inForce cX0_inForce 2 (some .boolean) 1 21 [.ref 0, .int x] (hC v) (some (.int (b2i (zF v x)))) (hC v) := by
  refine zm_of 0 qX0_inForce rfl rfl kX0_inForce rfl (Nat.le_of_ble_eq_true rfl) (fun C hC0 => ?_)
  refine zgo hC0 0 2 rfl ?_
  refine zcallV hC0 (mX0_isLaw v x) vX0_isLaw lk0_55 (by decide +kernel : decode cX0_inForce 2 = .ok (.invokevirtual 55, 3)) rfl rfl rfl (Nat.le_of_ble_eq_true rfl) (Nat.le_of_ble_eq_true rfl) (Nat.le_of_ble_eq_true rfl) ?_
  refine zgo hC0 3 1 rfl ?_
  refine And.intro (fun c => ?_) (fun c => ?_)
  · refine zgo hC0 12 2 rfl ?_
    exact zret_b (by rw [zF, b2i_f c]; rfl)
  · refine zgo hC0 4 6 rfl ?_
    have hl := b2i_t c
    refine And.intro (zL_in hm hl) (And.intro (fun (c2 : ¬ v 6 x.toNatClampNeg = -(nI 6)) => ?_) (fun (c2 : v 6 x.toNatClampNeg = -(nI 6)) => ?_))
    · refine zgo hC0 12 2 rfl ?_
      exact zret_b (by rw [zF, hl, iF, decide_eq_false c2]; rfl)
    · refine zgo hC0 10 2 rfl ?_
      refine zgo hC0 13 1 rfl ?_
      exact zret_b (by rw [zF, hl, iF, decide_eq_true c2]; rfl)
set_option maxHeartbeats 2000000 in
set_option maxRecDepth 20000 in
theorem mX0_isFull (v : CV) : ZM yX0_isFull cX0_isFull 1 (some .boolean) 0 0 [.ref 0] (hC v) (some (.int (b2i (decide (¬ v 9 0 < nI 80))))) (hC v) := by
  refine zm_of 0 qX0_isFull rfl rfl kX0_isFull rfl (Nat.le_of_ble_eq_true rfl) (fun C hC0 => ?_)
  refine zgo hC0 0 4 rfl ?_
  refine And.intro (fun (c : v 9 0 < nI 80) => ?_) (fun (c : ¬ v 9 0 < nI 80) => ?_)
  · refine zgo hC0 6 2 rfl ?_
    exact zret_b (zb0 (decide_eq_false (fun q => q c)))
  · refine zgo hC0 4 2 rfl ?_
    refine zgo hC0 7 1 rfl ?_
    exact zret_b (zb1 (decide_eq_true c))
set_option maxHeartbeats 2000000 in
set_option maxRecDepth 20000 in
theorem mX0_inForceIn (v : CV) (x t : Int32) (n : Nat) (hm : WM v n) : ZM yX0_inForceIn cX0_inForceIn 3 (some .boolean) 2 42 [.ref 0, .int x, .int t] (hC v) (some (.int (b2i (zFI v x t)))) (hC v) := by
  refine zm_of 0 qX0_inForceIn rfl rfl kX0_inForceIn rfl (Nat.le_of_ble_eq_true rfl) (fun C hC0 => ?_)
  refine zgo hC0 0 2 rfl ?_
  refine zcallV hC0 (mX0_inForce v x n hm) vX0_inForce lk0_59 (by decide +kernel : decode cX0_inForceIn 2 = .ok (.invokevirtual 59, 3)) rfl rfl rfl (Nat.le_of_ble_eq_true rfl) (Nat.le_of_ble_eq_true rfl) (Nat.le_of_ble_eq_true rfl) ?_
  refine zgo hC0 3 1 rfl ?_
  refine And.intro (fun c => ?_) (fun c => ?_)
  · refine zgo hC0 12 2 rfl ?_
    exact zret_b (zb0 (zand_f1 (b2i_f c)))
  · refine zgo hC0 4 6 rfl ?_
    refine And.intro (zF_in hm (b2i_t c)) (And.intro (fun (c2 : ¬ v 3 x.toNatClampNeg = t) => ?_) (fun (c2 : v 3 x.toNatClampNeg = t) => ?_))
    · refine zgo hC0 12 2 rfl ?_
      exact zret_b (zb0 (zand_f2 (decide_eq_false c2)))
    · refine zgo hC0 10 2 rfl ?_
      refine zgo hC0 13 1 rfl ?_
      exact zret_b (zb1 (zand_t (b2i_t c) (decide_eq_true c2)))
set_option maxHeartbeats 2000000 in
set_option maxRecDepth 20000 in
theorem mX0_isLike (v : CV) (x l t s : Int32) (n : Nat) (hm : WM v n) : ZM yX0_isLike cX0_isLike 5 (some .boolean) 1 21 [.ref 0, .int x, .int l, .int t, .int s] (hC v) (some (.int (b2i (zLK v x l t s)))) (hC v) := by
  refine zm_of 0 qX0_isLike rfl rfl kX0_isLike rfl (Nat.le_of_ble_eq_true rfl) (fun C hC0 => ?_)
  refine zgo hC0 0 2 rfl ?_
  refine zcallV hC0 (mX0_isLaw v x) vX0_isLaw lk0_55 (by decide +kernel : decode cX0_isLike 2 = .ok (.invokevirtual 55, 3)) rfl rfl rfl (Nat.le_of_ble_eq_true rfl) (Nat.le_of_ble_eq_true rfl) (Nat.le_of_ble_eq_true rfl) ?_
  refine zgo hC0 3 1 rfl ?_
  refine And.intro (fun c => ?_) (fun c => ?_)
  · refine zgo hC0 24 2 rfl ?_
    exact zret_b (zb0 (zand_f1 (b2i_f c)))
  · have hin := zL_in hm (b2i_t c)
    refine zgo hC0 4 6 rfl ?_
    refine And.intro hin (And.intro (fun (c2 : ¬ v 2 x.toNatClampNeg = l) => ?_) (fun (c2 : v 2 x.toNatClampNeg = l) => ?_))
    · refine zgo hC0 24 2 rfl ?_
      exact zret_b (zb0 (zand_f2 (zand_f1 (decide_eq_false c2))))
    · refine zgo hC0 10 6 rfl ?_
      refine And.intro hin (And.intro (fun (c3 : ¬ v 3 x.toNatClampNeg = t) => ?_) (fun (c3 : v 3 x.toNatClampNeg = t) => ?_))
      · refine zgo hC0 24 2 rfl ?_
        exact zret_b (zb0 (zand_f2 (zand_f2 (zand_f1 (decide_eq_false c3)))))
      · refine zgo hC0 16 6 rfl ?_
        refine And.intro hin (And.intro (fun (c4 : ¬ v 4 x.toNatClampNeg = s) => ?_) (fun (c4 : v 4 x.toNatClampNeg = s) => ?_))
        · refine zgo hC0 24 2 rfl ?_
          exact zret_b (zb0 (zand_f2 (zand_f2 (zand_f2 (decide_eq_false c4)))))
        · refine zgo hC0 22 2 rfl ?_
          refine zgo hC0 25 1 rfl ?_
          exact zret_b (zb1 (zand_t (b2i_t c) (zand_t (decide_eq_true c2) (zand_t (decide_eq_true c3) (decide_eq_true c4)))))
set_option maxHeartbeats 2000000 in
set_option maxRecDepth 20000 in
theorem mX0_contradict (v : CV) (x y : Int32) (n : Nat) (hm : WM v n) : ZM yX0_contradict cX0_contradict 3 (some .boolean) 2 42 [.ref 0, .int x, .int y] (hC v) (some (.int (b2i (zCT v x y)))) (hC v) := by
  refine zm_of 0 qX0_contradict rfl rfl kX0_contradict rfl (Nat.le_of_ble_eq_true rfl) (fun C hC0 => ?_)
  refine zgo hC0 0 2 rfl ?_
  refine zcallV hC0 (mX0_inForce v x n hm) vX0_inForce lk0_59 (by decide +kernel : decode cX0_contradict 2 = .ok (.invokevirtual 59, 3)) rfl rfl rfl (Nat.le_of_ble_eq_true rfl) (Nat.le_of_ble_eq_true rfl) (Nat.le_of_ble_eq_true rfl) ?_
  refine zgo hC0 3 1 rfl ?_
  refine And.intro (fun c => ?_) (fun c => ?_)
  · refine zgo hC0 28 2 rfl ?_
    exact zret_b (zb0 (zand_f1 (b2i_f c)))
  · have hx := zF_in hm (b2i_t c)
    refine zgo hC0 4 2 rfl ?_
    refine zcallV hC0 (mX0_inForce v y n hm) vX0_inForce lk0_59 (by decide +kernel : decode cX0_contradict 10 = .ok (.invokevirtual 59, 3)) rfl rfl rfl (Nat.le_of_ble_eq_true rfl) (Nat.le_of_ble_eq_true rfl) (Nat.le_of_ble_eq_true rfl) ?_
    refine zgo hC0 7 1 rfl ?_
    refine And.intro (fun d => ?_) (fun d => ?_)
    · refine zgo hC0 28 2 rfl ?_
      exact zret_b (zb0 (zand_f2 (zand_f1 (b2i_f d))))
    · have hy := zF_in hm (b2i_t d)
      refine zgo hC0 8 9 rfl ?_
      refine And.intro hx (And.intro hy (And.intro (fun (c2 : ¬ v 3 x.toNatClampNeg = v 3 y.toNatClampNeg) => ?_) (fun (c2 : v 3 x.toNatClampNeg = v 3 y.toNatClampNeg) => ?_)))
      · refine zgo hC0 28 2 rfl ?_
        exact zret_b (zb0 (zand_f2 (zand_f2 (zand_f1 (decide_eq_false c2)))))
      · refine zgo hC0 17 9 rfl ?_
        refine And.intro hx (And.intro hy (And.intro (fun (c3 : v 4 x.toNatClampNeg = v 4 y.toNatClampNeg) => ?_) (fun (c3 : ¬ v 4 x.toNatClampNeg = v 4 y.toNatClampNeg) => ?_)))
        · refine zgo hC0 28 2 rfl ?_
          exact zret_b (zb0 (zand_f2 (zand_f2 (zand_f2 (decide_eq_false (fun q => q c3))))))
        · refine zgo hC0 26 2 rfl ?_
          refine zgo hC0 29 1 rfl ?_
          exact zret_b (zb1 (zand_t (b2i_t c) (zand_t (b2i_t d) (zand_t (decide_eq_true c2) (decide_eq_true c3)))))
set_option maxHeartbeats 2000000 in
set_option maxRecDepth 20000 in
theorem mX0_wishOf (v : CV) (c t : Int32) : ZM yX0_wishOf cX0_wishOf 4 (some .int) 0 0 [.ref 0, .int c, .int t] (hC v) (some (.int (zWo v c t))) (hC v) := by
  refine zm_of 0 qX0_wishOf rfl rfl kX0_wishOf rfl (Nat.le_of_ble_eq_true rfl) (fun C hC0 => ?_)
  refine zgo hC0 0 8 rfl ?_
  refine And.intro (fun (c1 : c * nI 6 + t < 0) => ?_) (fun (c1 : ¬ c * nI 6 + t < 0) => ?_)
  · refine zgo hC0 16 2 rfl ?_
    exact zret_i (by rw [zWo, if_pos c1]; rfl)
  · refine zgo hC0 8 3 rfl ?_
    refine And.intro (fun (c2 : nI 30 ≤ c * nI 6 + t) => ?_) (fun (c2 : ¬ nI 30 ≤ c * nI 6 + t) => ?_)
    · refine zgo hC0 16 2 rfl ?_
      exact zret_i (by rw [zWo, if_neg c1, if_pos c2]; rfl)
    · refine zgo hC0 11 5 rfl ?_
      refine And.intro (zin (n := 30) (by decide) c1 c2) ?_
      refine zgo hC0 17 1 rfl ?_
      exact zret_i (by rw [zWo, if_neg c1, if_neg c2]; rfl)
set_option maxHeartbeats 2000000 in
set_option maxRecDepth 20000 in
theorem mX0_changeWish (v : CV) (c t w : Int32) (k : Nat) (hk : k < 30) (hq : c * nI 6 + t = nI k) : ZM yX0_changeWish cX0_changeWish 5 none 0 0 [.ref 0, .int c, .int t, .int w] (hC v) none (hC (vup v 1 (upd (v 1) k w))) := by
  refine zm_of 0 qX0_changeWish rfl rfl kX0_changeWish rfl (Nat.le_of_ble_eq_true rfl) (fun C hC0 => ?_)
  have h1 : ¬ c * nI 6 + t < 0 := by rw [hq]; exact nI_pos (by omega)
  have h2 : ¬ nI 30 ≤ c * nI 6 + t := by rw [hq]; exact nI_ge hk (by decide)
  refine zgo hC0 0 8 rfl ?_
  refine And.intro (fun (c1 : c * nI 6 + t < 0) => absurd c1 h1) (fun _ => ?_)
  refine zgo hC0 8 3 rfl ?_
  refine And.intro (fun (c1 : nI 30 ≤ c * nI 6 + t) => absurd c1 h2) (fun _ => ?_)
  refine zgo hC0 11 6 rfl ?_
  refine And.intro (zin (n := 30) (by decide) h1 h2) (And.intro rfl ?_)
  have e : (c * nI 6 + t).toNatClampNeg = k := by rw [hq]; exact nI_clamp (by omega)
  rw [← e]
  rfl
