/-! RepealedLaws.Code: its loops -/
theorem zloop (n : Nat) (P : Nat → Prop) (he : P n) (hs : ∀ i, i < n → P (i + 1) → P i) : P 0 := by
  have key : ∀ k, k ≤ n → P (n - k) := by
    intro k
    induction k with
    | zero => intro _; exact he
    | succ k ih =>
      intro hk
      refine hs (n - (k + 1)) (by omega) ?_
      rw [show n - (k + 1) + 1 = n - k by omega]
      exact ih (by omega)
  have := key n (Nat.le_refl n)
  rwa [Nat.sub_self] at this
def cnt (p : Nat → Bool) : Nat → Nat
  | 0 => 0
  | n + 1 => cnt p n + (match p n with | true => 1 | false => 0)
theorem cnt_t {p : Nat → Bool} {i : Nat} (h : p i = true) : nI (cnt p i) + nI 1 = nI (cnt p (i + 1)) := by
  rw [nI_add]
  simp [cnt, h]
theorem cnt_f {p : Nat → Bool} {i : Nat} (h : p i = false) : nI (cnt p i) = nI (cnt p (i + 1)) := by simp [cnt, h]
theorem cnt_le (p : Nat → Bool) : ∀ n, cnt p n ≤ n
  | 0 => Nat.le_refl 0
  | n + 1 => by
    have := cnt_le p n
    simp only [cnt]
    split <;> omega
def zsm (f : Nat → Int32) : Nat → Int32
  | 0 => nI 0
  | n + 1 => zsm f n + f n
def zany (p : Nat → Bool) : Nat → Bool
  | 0 => false
  | n + 1 => zany p n || p n
theorem zany_t {p : Nat → Bool} {i : Nat} (h : p i = true) : ∀ {n : Nat}, i < n → zany p n = true
  | 0, hi => absurd hi (Nat.not_lt_zero i)
  | n + 1, hi => by
    simp only [zany]
    by_cases e : i = n
    · subst e; rw [h]; simp
    · rw [zany_t h (show i < n by omega)]; rfl
theorem zany_f {p : Nat → Bool} {i : Nat} (h : zany p i = false) (h2 : p i = false) : zany p (i + 1) = false := by simp [zany, h, h2]
theorem zge_rf {v : CV} {n : Nat} (hm : WM v n) : v 9 0 ≤ nI n := by rw [hm.1]; exact nI_le (Nat.le_refl n) (by have := hm.2; omega)
theorem zge_no {v : CV} {n i : Nat} (hm : WM v n) (hi : i < n) : ¬ v 9 0 ≤ nI i := by rw [hm.1]; exact nI_ge hi (by have := hm.2; omega)
theorem zcl {n i : Nat} (h : n ≤ 80) (hi : i < n) : (nI i).toNatClampNeg = i := nI_clamp (by omega)
theorem zL_at {v : CV} {n i : Nat} (hm : WM v n) (hi : i < n) : zL v (nI i) = true := zL_yes (nI_pos (by have := hm.2; omega)) (zge_no hm hi)
theorem zF_at {v : CV} {n i : Nat} (hm : WM v n) (hi : i < n) : zF v (nI i) = iF v i := by rw [zF, zL_at hm hi, zcl hm.2 hi]; rfl
def iT (v : CV) (t : Int32) (j : Nat) : Bool := iF v j && decide (v 3 j = t)
def iTS (v : CV) (t s : Int32) (j : Nat) : Bool := iT v t j && decide (v 4 j = s)
def iLK (v : CV) (l t s : Int32) (j : Nat) : Bool := decide (v 2 j = l) && (decide (v 3 j = t) && decide (v 4 j = s))
theorem zFI_at {v : CV} {n i : Nat} {t : Int32} (hm : WM v n) (hi : i < n) : zFI v (nI i) t = iT v t i := by rw [zFI, zF_at hm hi, zcl hm.2 hi]; rfl
theorem zLK_at {v : CV} {n i : Nat} {l t s : Int32} (hm : WM v n) (hi : i < n) : zLK v (nI i) l t s = iLK v l t s i := by rw [zLK, zL_at hm hi, zcl hm.2 hi]; rfl
theorem zin80 {n i : Nat} (h : n ≤ 80) (hi : i < n) : vp_in (nI i) 80 := vp_in_nI (by omega) (by omega)
theorem zR1b {b : Bool} {x : Int32} {h : List ZC} (hx : narrow .boolean (.int x) = .int x) (e : b2i b = x) : zR1 (some .boolean) (some (.int (b2i b))) h x h := ⟨hx, by rw [e], rfl⟩
set_option maxHeartbeats 2000000 in
set_option maxRecDepth 20000 in
theorem mX0_lawsInForce (v : CV) (n : Nat) (hm : WM v n) : ZM yX0_lawsInForce cX0_lawsInForce 3 (some .int) 2 42 [.ref 0] (hC v) (some (.int (nI (cnt (iF v) n)))) (hC v) := by
  refine zm_of 0 qX0_lawsInForce rfl rfl kX0_lawsInForce rfl (Nat.le_of_ble_eq_true rfl) (fun C hC0 => ?_)
  refine zgo hC0 0 4 rfl ?_
  refine zloop n (fun i => ∀ a x : Int32, a = nI (cnt (iF v) i) → x = nI i → C 4 [some (.ref 0), some (.int a), some (.int x)] [] (hC v)) ?_ ?_ _ _ rfl rfl
  · rintro a x rfl rfl
    refine zgo hC0 4 4 rfl ?_
    refine And.intro (fun _ => ?_) (fun c => absurd (zge_rf hm) c)
    refine zgo hC0 15 2 rfl ?_
    exact zret_i rfl
  · rintro i hi ih a x rfl rfl
    refine zgo hC0 4 4 rfl ?_
    refine And.intro (fun c => absurd c (zge_no hm hi)) (fun _ => ?_)
    refine zgo hC0 8 2 rfl ?_
    refine zcallV hC0 (mX0_inForce v (nI i) n hm) vX0_inForce lk0_59 (by decide +kernel : decode cX0_lawsInForce 14 = .ok (.invokevirtual 59, 3)) rfl rfl rfl (Nat.le_of_ble_eq_true rfl) (Nat.le_of_ble_eq_true rfl) (Nat.le_of_ble_eq_true rfl) ?_
    refine zgo hC0 11 1 rfl ?_
    refine And.intro (fun c => ?_) (fun c => ?_)
    · refine zgo hC0 13 2 rfl ?_
      exact ih _ _ (cnt_f ((zF_at hm hi).symm.trans (b2i_f c))) (nI_add i 1)
    · refine zgo hC0 12 3 rfl ?_
      exact ih _ _ (cnt_t ((zF_at hm hi).symm.trans (b2i_t c))) (nI_add i 1)
set_option maxHeartbeats 2000000 in
set_option maxRecDepth 20000 in
theorem mX0_lawsInForceIn (v : CV) (t : Int32) (n : Nat) (hm : WM v n) : ZM yX0_lawsInForceIn cX0_lawsInForceIn 4 (some .int) 3 64 [.ref 0, .int t] (hC v) (some (.int (nI (cnt (iT v t) n)))) (hC v) := by
  refine zm_of 0 qX0_lawsInForceIn rfl rfl kX0_lawsInForceIn rfl (Nat.le_of_ble_eq_true rfl) (fun C hC0 => ?_)
  refine zgo hC0 0 4 rfl ?_
  refine zloop n (fun i => ∀ a x : Int32, a = nI (cnt (iT v t) i) → x = nI i → C 4 [some (.ref 0), some (.int t), some (.int a), some (.int x)] [] (hC v)) ?_ ?_ _ _ rfl rfl
  · rintro a x rfl rfl
    refine zgo hC0 4 4 rfl ?_
    refine And.intro (fun _ => ?_) (fun c => absurd (zge_rf hm) c)
    refine zgo hC0 16 2 rfl ?_
    exact zret_i rfl
  · rintro i hi ih a x rfl rfl
    refine zgo hC0 4 4 rfl ?_
    refine And.intro (fun c => absurd c (zge_no hm hi)) (fun _ => ?_)
    refine zgo hC0 8 3 rfl ?_
    refine zcallV hC0 (mX0_inForceIn v (nI i) t n hm) vX0_inForceIn lk0_62 (by decide +kernel : decode cX0_lawsInForceIn 15 = .ok (.invokevirtual 62, 3)) rfl rfl rfl (Nat.le_of_ble_eq_true rfl) (Nat.le_of_ble_eq_true rfl) (Nat.le_of_ble_eq_true rfl) ?_
    refine zgo hC0 12 1 rfl ?_
    refine And.intro (fun c => ?_) (fun c => ?_)
    · refine zgo hC0 14 2 rfl ?_
      exact ih _ _ (cnt_f ((zFI_at hm hi).symm.trans (b2i_f c))) (nI_add i 1)
    · refine zgo hC0 13 3 rfl ?_
      exact ih _ _ (cnt_t ((zFI_at hm hi).symm.trans (b2i_t c))) (nI_add i 1)
set_option maxHeartbeats 2000000 in
set_option maxRecDepth 20000 in
theorem mX0_lawsInForceWith (v : CV) (t s : Int32) (n : Nat) (hm : WM v n) : ZM yX0_lawsInForceWith cX0_lawsInForceWith 5 (some .int) 3 64 [.ref 0, .int t, .int s] (hC v) (some (.int (nI (cnt (iTS v t s) n)))) (hC v) := by
  refine zm_of 0 qX0_lawsInForceWith rfl rfl kX0_lawsInForceWith rfl (Nat.le_of_ble_eq_true rfl) (fun C hC0 => ?_)
  refine zgo hC0 0 4 rfl ?_
  refine zloop n (fun i => ∀ a x : Int32, a = nI (cnt (iTS v t s) i) → x = nI i → C 5 [some (.ref 0), some (.int t), some (.int s), some (.int a), some (.int x)] [] (hC v)) ?_ ?_ _ _ rfl rfl
  · rintro a x rfl rfl
    refine zgo hC0 4 4 rfl ?_
    refine And.intro (fun _ => ?_) (fun c => absurd (zge_rf hm) c)
    refine zgo hC0 22 2 rfl ?_
    exact zret_i rfl
  · rintro i hi ih a x rfl rfl
    refine zgo hC0 4 4 rfl ?_
    refine And.intro (fun c => absurd c (zge_no hm hi)) (fun _ => ?_)
    refine zgo hC0 8 3 rfl ?_
    refine zcallV hC0 (mX0_inForceIn v (nI i) t n hm) vX0_inForceIn lk0_62 (by decide +kernel : decode cX0_lawsInForceWith 18 = .ok (.invokevirtual 62, 3)) rfl rfl rfl (Nat.le_of_ble_eq_true rfl) (Nat.le_of_ble_eq_true rfl) (Nat.le_of_ble_eq_true rfl) ?_
    refine zgo hC0 12 1 rfl ?_
    refine And.intro (fun c => ?_) (fun c => ?_)
    · refine zgo hC0 20 2 rfl ?_
      exact ih _ _ (cnt_f (zand_f1 ((zFI_at hm hi).symm.trans (b2i_f c)))) (nI_add i 1)
    · have c1 := (zFI_at hm hi).symm.trans (b2i_t c)
      have e := zcl hm.2 hi
      refine zgo hC0 13 6 rfl ?_
      refine And.intro (zin80 hm.2 hi) (And.intro (fun (c2 : ¬ v 4 (nI i).toNatClampNeg = s) => ?_) (fun (c2 : v 4 (nI i).toNatClampNeg = s) => ?_))
      · refine zgo hC0 20 2 rfl ?_
        rw [e] at c2
        exact ih _ _ (cnt_f (zand_f2 (decide_eq_false c2))) (nI_add i 1)
      · refine zgo hC0 19 3 rfl ?_
        rw [e] at c2
        exact ih _ _ (cnt_t (zand_t c1 (decide_eq_true c2))) (nI_add i 1)
def iW (v : CV) (j : Nat) : Int32 := match iF v j with
  | true => v 2 j
  | false => nI 0
theorem zadd0 (x : Int32) : x + nI 0 = x := Int32.add_zero x
set_option maxHeartbeats 2000000 in
set_option maxRecDepth 20000 in
theorem mX0_wordsInForce (v : CV) (n : Nat) (hm : WM v n) : ZM yX0_wordsInForce cX0_wordsInForce 3 (some .int) 2 42 [.ref 0] (hC v) (some (.int (zsm (iW v) n))) (hC v) := by
  refine zm_of 0 qX0_wordsInForce rfl rfl kX0_wordsInForce rfl (Nat.le_of_ble_eq_true rfl) (fun C hC0 => ?_)
  refine zgo hC0 0 4 rfl ?_
  refine zloop n (fun i => ∀ a x : Int32, a = zsm (iW v) i → x = nI i → C 4 [some (.ref 0), some (.int a), some (.int x)] [] (hC v)) ?_ ?_ _ _ rfl rfl
  · rintro a x rfl rfl
    refine zgo hC0 4 4 rfl ?_
    refine And.intro (fun _ => ?_) (fun c => absurd (zge_rf hm) c)
    refine zgo hC0 21 2 rfl ?_
    exact zret_i rfl
  · rintro i hi ih a x rfl rfl
    refine zgo hC0 4 4 rfl ?_
    refine And.intro (fun c => absurd c (zge_no hm hi)) (fun _ => ?_)
    refine zgo hC0 8 2 rfl ?_
    refine zcallV hC0 (mX0_inForce v (nI i) n hm) vX0_inForce lk0_59 (by decide +kernel : decode cX0_wordsInForce 14 = .ok (.invokevirtual 59, 3)) rfl rfl rfl (Nat.le_of_ble_eq_true rfl) (Nat.le_of_ble_eq_true rfl) (Nat.le_of_ble_eq_true rfl) ?_
    refine zgo hC0 11 1 rfl ?_
    refine And.intro (fun c => ?_) (fun c => ?_)
    · refine zgo hC0 19 2 rfl ?_
      exact ih _ _ (by rw [zsm, iW, (zF_at hm hi).symm.trans (b2i_f c)]; exact (zadd0 _).symm) (nI_add i 1)
    · refine zgo hC0 12 9 rfl ?_
      refine And.intro (zin80 hm.2 hi) ?_
      exact ih _ _ (by rw [zsm, iW, (zF_at hm hi).symm.trans (b2i_t c)]; show _ + v 2 _ = _; rw [zcl hm.2 hi]) (nI_add i 1)
def iM (v : CV) (j : Nat) : Bool := decide (v 5 j = v 10 0)
set_option maxHeartbeats 2000000 in
set_option maxRecDepth 20000 in
theorem mX0_madeInThisSession (v : CV) (n : Nat) (hm : WM v n) : ZM yX0_madeInThisSession cX0_madeInThisSession 3 (some .int) 0 0 [.ref 0] (hC v) (some (.int (nI (cnt (iM v) n)))) (hC v) := by
  refine zm_of 0 qX0_madeInThisSession rfl rfl kX0_madeInThisSession rfl (Nat.le_of_ble_eq_true rfl) (fun C hC0 => ?_)
  refine zgo hC0 0 4 rfl ?_
  refine zloop n (fun i => ∀ a x : Int32, a = nI (cnt (iM v) i) → x = nI i → C 4 [some (.ref 0), some (.int a), some (.int x)] [] (hC v)) ?_ ?_ _ _ rfl rfl
  · rintro a x rfl rfl
    refine zgo hC0 4 4 rfl ?_
    refine And.intro (fun _ => ?_) (fun c => absurd (zge_rf hm) c)
    refine zgo hC0 18 2 rfl ?_
    exact zret_i rfl
  · rintro i hi ih a x rfl rfl
    refine zgo hC0 4 4 rfl ?_
    refine And.intro (fun c => absurd c (zge_no hm hi)) (fun _ => ?_)
    have e := zcl hm.2 hi
    refine zgo hC0 8 7 rfl ?_
    refine And.intro (zin80 hm.2 hi) (And.intro (fun (c2 : ¬ v 5 (nI i).toNatClampNeg = v 10 0) => ?_) (fun (c2 : v 5 (nI i).toNatClampNeg = v 10 0) => ?_))
    · refine zgo hC0 16 2 rfl ?_
      rw [e] at c2
      exact ih _ _ (cnt_f (decide_eq_false c2)) (nI_add i 1)
    · refine zgo hC0 15 3 rfl ?_
      rw [e] at c2
      exact ih _ _ (cnt_t (decide_eq_true c2)) (nI_add i 1)
/-- the law by which something holds in a topic, and its length -/
def zho (v : CV) (t : Int32) : Nat → Int32 × Int32
  | 0 => (-(nI 6), nI 0)
  | j + 1 => if iT v t j = true ∧ ¬ v 2 j < (zho v t j).2 then (nI j, v 2 j) else zho v t j
def zH (v : CV) (t : Int32) (n : Nat) : Int32 := (zho v t n).1
set_option maxHeartbeats 2000000 in
set_option maxRecDepth 20000 in
theorem mX0_holderIn (v : CV) (t : Int32) (n : Nat) (hm : WM v n) : ZM yX0_holderIn cX0_holderIn 5 (some .int) 3 64 [.ref 0, .int t] (hC v) (some (.int (zH v t n))) (hC v) := by
  refine zm_of 0 qX0_holderIn rfl rfl kX0_holderIn rfl (Nat.le_of_ble_eq_true rfl) (fun C hC0 => ?_)
  refine zgo hC0 0 6 rfl ?_
  refine zloop n (fun i => ∀ a b x : Int32, a = (zho v t i).1 → b = (zho v t i).2 → x = nI i → C 8 [some (.ref 0), some (.int t), some (.int a), some (.int b), some (.int x)] [] (hC v)) ?_ ?_ _ _ _ rfl rfl rfl
  · rintro a b x rfl rfl rfl
    refine zgo hC0 6 4 rfl ?_
    refine And.intro (fun _ => ?_) (fun c => absurd (zge_rf hm) c)
    refine zgo hC0 30 2 rfl ?_
    exact zret_i rfl
  · rintro i hi ih a b x rfl rfl rfl
    refine zgo hC0 6 4 rfl ?_
    refine And.intro (fun c => absurd c (zge_no hm hi)) (fun _ => ?_)
    have e := zcl hm.2 hi
    refine zgo hC0 10 3 rfl ?_
    refine zcallV hC0 (mX0_inForceIn v (nI i) t n hm) vX0_inForceIn lk0_62 (by decide +kernel : decode cX0_holderIn 21 = .ok (.invokevirtual 62, 3)) rfl rfl rfl (Nat.le_of_ble_eq_true rfl) (Nat.le_of_ble_eq_true rfl) (Nat.le_of_ble_eq_true rfl) ?_
    refine zgo hC0 14 1 rfl ?_
    refine And.intro (fun c => ?_) (fun c => ?_)
    · refine zgo hC0 28 2 rfl ?_
      have c1 := (zFI_at hm hi).symm.trans (b2i_f c)
      have e2 : zho v t (i + 1) = zho v t i := by rw [zho, if_neg]; rintro ⟨q, -⟩; rw [c1] at q; cases q
      exact ih _ _ _ (by rw [e2]) (by rw [e2]) (nI_add i 1)
    · have c1 := (zFI_at hm hi).symm.trans (b2i_t c)
      refine zgo hC0 15 6 rfl ?_
      refine And.intro (zin80 hm.2 hi) (And.intro (fun (c2 : v 2 (nI i).toNatClampNeg < (zho v t i).2) => ?_) (fun (c2 : ¬ v 2 (nI i).toNatClampNeg < (zho v t i).2) => ?_))
      · refine zgo hC0 28 2 rfl ?_
        rw [e] at c2
        have e2 : zho v t (i + 1) = zho v t i := by rw [zho, if_neg]; rintro ⟨-, q⟩; exact q c2
        exact ih _ _ _ (by rw [e2]) (by rw [e2]) (nI_add i 1)
      · refine zgo hC0 21 9 rfl ?_
        refine And.intro (zin80 hm.2 hi) ?_
        rw [e] at c2
        have e2 : zho v t (i + 1) = (nI i, v 2 i) := by rw [zho, if_pos ⟨c1, c2⟩]
        exact ih _ _ _ (by rw [e2]) (by rw [e2]; show v 2 _ = v 2 i; rw [e]) (nI_add i 1)
/-- the stance that holds in a topic -/
def zST (v : CV) (t : Int32) (n : Nat) : Int32 := match zL v (zH v t n) with
  | true => v 4 (zH v t n).toNatClampNeg
  | false => -(nI 6)
set_option maxHeartbeats 2000000 in
set_option maxRecDepth 20000 in
theorem mX0_stanceHeldIn (v : CV) (t : Int32) (n : Nat) (hm : WM v n) : ZM yX0_stanceHeldIn cX0_stanceHeldIn 3 (some .int) 4 88 [.ref 0, .int t] (hC v) (some (.int (zST v t n))) (hC v) := by
  refine zm_of 0 qX0_stanceHeldIn rfl rfl kX0_stanceHeldIn rfl (Nat.le_of_ble_eq_true rfl) (fun C hC0 => ?_)
  refine zgo hC0 0 2 rfl ?_
  refine zcallV hC0 (mX0_holderIn v t n hm) vX0_holderIn lk0_66 (by decide +kernel : decode cX0_stanceHeldIn 2 = .ok (.invokevirtual 66, 3)) rfl rfl rfl (Nat.le_of_ble_eq_true rfl) (Nat.le_of_ble_eq_true rfl) (Nat.le_of_ble_eq_true rfl) ?_
  refine zgo hC0 3 3 rfl ?_
  refine zcallV hC0 (mX0_isLaw v (zH v t n)) vX0_isLaw lk0_55 (by decide +kernel : decode cX0_stanceHeldIn 8 = .ok (.invokevirtual 55, 3)) rfl rfl rfl (Nat.le_of_ble_eq_true rfl) (Nat.le_of_ble_eq_true rfl) (Nat.le_of_ble_eq_true rfl) ?_
  refine zgo hC0 7 1 rfl ?_
  refine And.intro (fun c => ?_) (fun c => ?_)
  · refine zgo hC0 13 2 rfl ?_
    exact zret_i (by rw [zST, b2i_f c]; rfl)
  · refine zgo hC0 8 5 rfl ?_
    refine And.intro (zL_in hm (b2i_t c)) ?_
    refine zgo hC0 14 1 rfl ?_
    exact zret_i (by rw [zST, b2i_t c])
set_option maxHeartbeats 2000000 in
set_option maxRecDepth 20000 in
theorem mX0_topicsWithHolder (v : CV) (n : Nat) (hm : WM v n) : ZM yX0_topicsWithHolder cX0_topicsWithHolder 3 (some .int) 4 88 [.ref 0] (hC v) (some (.int (nI (cnt (fun t => decide (¬ zH v (nI t) n = -(nI 6))) 6)))) (hC v) := by
  refine zm_of 0 qX0_topicsWithHolder rfl rfl kX0_topicsWithHolder rfl (Nat.le_of_ble_eq_true rfl) (fun C hC0 => ?_)
  refine zgo hC0 0 4 rfl ?_
  refine zloop 6 (fun i => ∀ a x : Int32, a = nI (cnt (fun t => decide (¬ zH v (nI t) n = -(nI 6))) i) → x = nI i → C 4 [some (.ref 0), some (.int a), some (.int x)] [] (hC v)) ?_ ?_ _ _ rfl rfl
  · rintro a x rfl rfl
    refine zgo hC0 4 3 rfl ?_
    refine And.intro (fun _ => ?_) (fun c => absurd (nI_le (Nat.le_refl 6) (by decide)) c)
    refine zgo hC0 15 2 rfl ?_
    exact zret_i rfl
  · rintro i hi ih a x rfl rfl
    refine zgo hC0 4 3 rfl ?_
    refine And.intro (fun c => absurd c (nI_ge hi (by decide))) (fun _ => ?_)
    refine zgo hC0 7 2 rfl ?_
    refine zcallV hC0 (mX0_holderIn v (nI i) n hm) vX0_holderIn lk0_66 (by decide +kernel : decode cX0_topicsWithHolder 12 = .ok (.invokevirtual 66, 3)) rfl rfl rfl (Nat.le_of_ble_eq_true rfl) (Nat.le_of_ble_eq_true rfl) (Nat.le_of_ble_eq_true rfl) ?_
    refine zgo hC0 10 2 rfl ?_
    refine And.intro (fun (c : zH v (nI i) n = -(nI 6)) => ?_) (fun (c : ¬ zH v (nI i) n = -(nI 6)) => ?_)
    · refine zgo hC0 13 2 rfl ?_
      exact ih _ _ (cnt_f (decide_eq_false (fun q => q c))) (nI_add i 1)
    · refine zgo hC0 12 3 rfl ?_
      exact ih _ _ (cnt_t (p := fun t => decide (¬ zH v (nI t) n = -(nI 6))) (decide_eq_true c)) (nI_add i 1)
set_option maxHeartbeats 2000000 in
set_option maxRecDepth 20000 in
theorem mX0_contradictionsOf (v : CV) (y : Int32) (n : Nat) (hm : WM v n) : ZM yX0_contradictionsOf cX0_contradictionsOf 4 (some .int) 3 64 [.ref 0, .int y] (hC v) (some (.int (nI (cnt (fun j => zCT v y (nI j)) n)))) (hC v) := by
  refine zm_of 0 qX0_contradictionsOf rfl rfl kX0_contradictionsOf rfl (Nat.le_of_ble_eq_true rfl) (fun C hC0 => ?_)
  refine zgo hC0 0 4 rfl ?_
  refine zloop n (fun i => ∀ a x : Int32, a = nI (cnt (fun j => zCT v y (nI j)) i) → x = nI i → C 4 [some (.ref 0), some (.int y), some (.int a), some (.int x)] [] (hC v)) ?_ ?_ _ _ rfl rfl
  · rintro a x rfl rfl
    refine zgo hC0 4 4 rfl ?_
    refine And.intro (fun _ => ?_) (fun c => absurd (zge_rf hm) c)
    refine zgo hC0 16 2 rfl ?_
    exact zret_i rfl
  · rintro i hi ih a x rfl rfl
    refine zgo hC0 4 4 rfl ?_
    refine And.intro (fun c => absurd c (zge_no hm hi)) (fun _ => ?_)
    refine zgo hC0 8 3 rfl ?_
    refine zcallV hC0 (mX0_contradict v y (nI i) n hm) vX0_contradict lk0_70 (by decide +kernel : decode cX0_contradictionsOf 15 = .ok (.invokevirtual 70, 3)) rfl rfl rfl (Nat.le_of_ble_eq_true rfl) (Nat.le_of_ble_eq_true rfl) (Nat.le_of_ble_eq_true rfl) ?_
    refine zgo hC0 12 1 rfl ?_
    refine And.intro (fun c => ?_) (fun c => ?_)
    · refine zgo hC0 14 2 rfl ?_
      exact ih _ _ (cnt_f (p := fun j => zCT v y (nI j)) (b2i_f c)) (nI_add i 1)
    · refine zgo hC0 13 3 rfl ?_
      exact ih _ _ (cnt_t (p := fun j => zCT v y (nI j)) (b2i_t c)) (nI_add i 1)
def zCI (v : CV) (t : Int32) (n : Nat) : Int32 := nI (cnt (iTS v t (nI 0)) n) * nI (cnt (iTS v t (nI 1)) n) + nI (cnt (iTS v t (nI 0)) n) * nI (cnt (iTS v t (nI 2)) n) + nI (cnt (iTS v t (nI 1)) n) * nI (cnt (iTS v t (nI 2)) n)
set_option maxHeartbeats 2000000 in
set_option maxRecDepth 20000 in
theorem mX0_contradictionsIn (v : CV) (t : Int32) (n : Nat) (hm : WM v n) : ZM yX0_contradictionsIn cX0_contradictionsIn 5 (some .int) 4 88 [.ref 0, .int t] (hC v) (some (.int (zCI v t n))) (hC v) := by
  refine zm_of 0 qX0_contradictionsIn rfl rfl kX0_contradictionsIn rfl (Nat.le_of_ble_eq_true rfl) (fun C hC0 => ?_)
  refine zgo hC0 0 3 rfl ?_
  refine zcallV hC0 (mX0_lawsInForceWith v t (nI 0) n hm) vX0_lawsInForceWith lk0_73 (by decide +kernel : decode cX0_contradictionsIn 3 = .ok (.invokevirtual 73, 3)) rfl rfl rfl (Nat.le_of_ble_eq_true rfl) (Nat.le_of_ble_eq_true rfl) (Nat.le_of_ble_eq_true rfl) ?_
  refine zgo hC0 4 4 rfl ?_
  refine zcallV hC0 (mX0_lawsInForceWith v t (nI 1) n hm) vX0_lawsInForceWith lk0_73 (by decide +kernel : decode cX0_contradictionsIn 10 = .ok (.invokevirtual 73, 3)) rfl rfl rfl (Nat.le_of_ble_eq_true rfl) (Nat.le_of_ble_eq_true rfl) (Nat.le_of_ble_eq_true rfl) ?_
  refine zgo hC0 9 4 rfl ?_
  refine zcallV hC0 (mX0_lawsInForceWith v t (nI 2) n hm) vX0_lawsInForceWith lk0_73 (by decide +kernel : decode cX0_contradictionsIn 17 = .ok (.invokevirtual 73, 3)) rfl rfl rfl (Nat.le_of_ble_eq_true rfl) (Nat.le_of_ble_eq_true rfl) (Nat.le_of_ble_eq_true rfl) ?_
  refine zgo hC0 14 13 rfl ?_
  exact zret_i rfl
set_option maxHeartbeats 2000000 in
set_option maxRecDepth 20000 in
theorem mX0_contradictionsByTopics (v : CV) (n : Nat) (hm : WM v n) : ZM yX0_contradictionsByTopics cX0_contradictionsByTopics 3 (some .int) 5 112 [.ref 0] (hC v) (some (.int (zsm (fun t => zCI v (nI t) n) 6))) (hC v) := by
  refine zm_of 0 qX0_contradictionsByTopics rfl rfl kX0_contradictionsByTopics rfl (Nat.le_of_ble_eq_true rfl) (fun C hC0 => ?_)
  refine zgo hC0 0 4 rfl ?_
  refine zloop 6 (fun i => ∀ a x : Int32, a = zsm (fun t => zCI v (nI t) n) i → x = nI i → C 4 [some (.ref 0), some (.int a), some (.int x)] [] (hC v)) ?_ ?_ _ _ rfl rfl
  · rintro a x rfl rfl
    refine zgo hC0 4 3 rfl ?_
    refine And.intro (fun _ => ?_) (fun c => absurd (nI_le (Nat.le_refl 6) (by decide)) c)
    refine zgo hC0 15 2 rfl ?_
    exact zret_i rfl
  · rintro i hi ih a x rfl rfl
    refine zgo hC0 4 3 rfl ?_
    refine And.intro (fun c => absurd c (nI_ge hi (by decide))) (fun _ => ?_)
    refine zgo hC0 7 3 rfl ?_
    refine zcallV hC0 (mX0_contradictionsIn v (nI i) n hm) vX0_contradictionsIn lk0_77 (by decide +kernel : decode cX0_contradictionsByTopics 13 = .ok (.invokevirtual 77, 3)) rfl rfl rfl (Nat.le_of_ble_eq_true rfl) (Nat.le_of_ble_eq_true rfl) (Nat.le_of_ble_eq_true rfl) ?_
    refine zgo hC0 11 4 rfl ?_
    exact ih _ _ rfl (nI_add i 1)
/-- pairs of places below n that q tells -/
def zps (q : Nat → Nat → Bool) (n : Nat) : Nat → Nat
  | 0 => 0
  | i + 1 => zps q n i + cnt (fun j => q i (i + 1 + j)) (n - (i + 1))
set_option maxHeartbeats 2000000 in
set_option maxRecDepth 20000 in
theorem mX0_contradictionsByPairs (v : CV) (n : Nat) (hm : WM v n) : ZM yX0_contradictionsByPairs cX0_contradictionsByPairs 4 (some .int) 3 64 [.ref 0] (hC v) (some (.int (nI (zps (fun i j => zCT v (nI i) (nI j)) n n)))) (hC v) := by
  refine zm_of 0 qX0_contradictionsByPairs rfl rfl kX0_contradictionsByPairs rfl (Nat.le_of_ble_eq_true rfl) (fun C hC0 => ?_)
  refine zgo hC0 0 4 rfl ?_
  refine zloop n (fun i => ∀ (a x : Int32) (o : Option Value), a = nI (zps (fun i j => zCT v (nI i) (nI j)) n i) → x = nI i → C 4 [some (.ref 0), some (.int a), some (.int x), o] [] (hC v)) ?_ ?_ _ _ _ rfl rfl
  · rintro a x o rfl rfl
    refine zgo hC0 4 4 rfl ?_
    refine And.intro (fun _ => ?_) (fun c => absurd (zge_rf hm) c)
    refine zgo hC0 26 2 rfl ?_
    exact zret_i rfl
  · rintro i hi ih a x o rfl rfl
    refine zgo hC0 4 4 rfl ?_
    refine And.intro (fun c => absurd c (zge_no hm hi)) (fun _ => ?_)
    refine zgo hC0 8 4 rfl ?_
    refine zloop (n - (i + 1)) (fun k => ∀ a y : Int32, a = nI (zps (fun i j => zCT v (nI i) (nI j)) n i + cnt (fun j => zCT v (nI i) (nI (i + 1 + j))) k) → y = nI (i + 1 + k) → C 16 [some (.ref 0), some (.int a), some (.int (nI i)), some (.int y)] [] (hC v)) ?_ ?_ _ _ rfl (nI_add i 1)
    · rintro a y rfl rfl
      refine zgo hC0 12 4 rfl ?_
      rw [show i + 1 + (n - (i + 1)) = n by omega]
      refine And.intro (fun _ => ?_) (fun c => absurd (zge_rf hm) c)
      refine zgo hC0 24 2 rfl ?_
      exact ih _ _ _ rfl (nI_add i 1)
    · rintro k hk ih2 a y rfl rfl
      refine zgo hC0 12 4 rfl ?_
      refine And.intro (fun c => absurd c (zge_no hm (by omega))) (fun _ => ?_)
      refine zgo hC0 16 3 rfl ?_
      refine zcallV hC0 (mX0_contradict v (nI i) (nI (i + 1 + k)) n hm) vX0_contradict lk0_70 (by decide +kernel : decode cX0_contradictionsByPairs 27 = .ok (.invokevirtual 70, 3)) rfl rfl rfl (Nat.le_of_ble_eq_true rfl) (Nat.le_of_ble_eq_true rfl) (Nat.le_of_ble_eq_true rfl) ?_
      refine zgo hC0 20 1 rfl ?_
      refine And.intro (fun c => ?_) (fun c => ?_)
      · refine zgo hC0 22 2 rfl ?_
        exact ih2 _ _ (by have := b2i_f c; simp [cnt, this]) (nI_add (i + 1 + k) 1)
      · refine zgo hC0 21 3 rfl ?_
        exact ih2 _ _ (by have := b2i_t c; rw [show zlit 1 = nI 1 from rfl, nI_add]; simp only [cnt, this]; rfl) (nI_add (i + 1 + k) 1)
