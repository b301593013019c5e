/-! pairs, counted in two ways -/
theorem cnt_congr {p q : Nat → Bool} : ∀ {n : Nat}, (∀ i, i < n → p i = q i) → cnt p n = cnt q n
  | 0, _ => rfl
  | n + 1, h => by
    rw [cnt, cnt, cnt_congr (fun i hi => h i (by omega)), h n (by omega)]
def bN (b : Bool) : Nat := match b with
  | true => 1
  | false => 0
theorem cnt_s (p : Nat → Bool) (n : Nat) : cnt p (n + 1) = cnt p n + bN (p n) := rfl
theorem zps_congr {q r : Nat → Nat → Bool} {n : Nat} (h : ∀ i j, i < n → j < n → q i j = r i j) : ∀ i, i ≤ n → zps q n i = zps r n i
  | 0, _ => rfl
  | i + 1, hi => by
    rw [zps, zps, zps_congr h i (by omega), cnt_congr (p := fun j => q i (i + 1 + j)) (q := fun j => r i (i + 1 + j)) (fun j hj => h i (i + 1 + j) (by omega) (by omega))]
theorem zps_step (q : Nat → Nat → Bool) (m : Nat) : ∀ i, i ≤ m → zps q (m + 1) i = zps q m i + cnt (fun a => q a m) i
  | 0, _ => rfl
  | i + 1, hi => by
    rw [zps, zps, zps_step q m i (by omega), cnt_s, show m + 1 - (i + 1) = (m - (i + 1)) + 1 by omega, cnt_s, show i + 1 + (m - (i + 1)) = m by omega]
    omega
theorem zps_sq (q : Nat → Nat → Bool) (m : Nat) : zps q (m + 1) (m + 1) = zps q m m + cnt (fun a => q a m) m := by
  rw [zps, zps_step q m m (Nat.le_refl m), Nat.sub_self]
  rfl
def zpq (q : Nat → Nat → Bool) (n : Nat) : Nat → Nat
  | 0 => 0
  | k + 1 => zpq q n k + cnt (fun i => q i k) n
theorem zpq_step (q : Nat → Nat → Bool) (m : Nat) : ∀ k, zpq q (m + 1) k = zpq q m k + cnt (fun a => q m a) k
  | 0 => rfl
  | k + 1 => by
    rw [zpq, zpq, zpq_step q m k, cnt_s, cnt_s]
    omega
theorem zpq_two {q : Nat → Nat → Bool} (hs : ∀ i j, q i j = q j i) (hi : ∀ i, q i i = false) : ∀ m, zpq q m m = 2 * zps q m m
  | 0 => rfl
  | m + 1 => by
    have e : (fun a => q m a) = (fun a => q a m) := funext (fun a => hs m a)
    rw [zps_sq, zpq, zpq_step, cnt_s, hi m, zpq_two hs hi m, e, bN]
    omega
theorem iCT_symm (v : CV) (i j : Nat) : iCT v i j = iCT v j i := by
  rw [Bool.eq_iff_iff]
  simp only [iCT, Bool.and_eq_true, decide_eq_true_eq]
  constructor
  · rintro ⟨a, b, c, d⟩
    exact ⟨b, a, c.symm, fun q => d q.symm⟩
  · rintro ⟨a, b, c, d⟩
    exact ⟨b, a, c.symm, fun q => d q.symm⟩
theorem iCT_irr (v : CV) (i : Nat) : iCT v i i = false := by simp [iCT]
theorem zCT_at {v : CV} {n i j : Nat} (hm : WM v n) (hi : i < n) (hj : j < n) : zCT v (nI i) (nI j) = iCT v i j := by
  rw [zCT, zF_at hm hi, zF_at hm hj, zcl hm.2 hi, zcl hm.2 hj]
  rfl
theorem zps_CT {v : CV} {n : Nat} (hm : WM v n) : zps (fun i j => zCT v (nI i) (nI j)) n n = zps (iCT v) n n := zps_congr (fun _ _ hi hj => zCT_at hm hi hj) n (Nat.le_refl n)
/-- the pairs in a topic -/
def iCQ (v : CV) (t : Int32) (i k : Nat) : Bool := decide (v 3 k = t) && iCT v i k
theorem iCQ_symm (v : CV) (t : Int32) (i j : Nat) : iCQ v t i j = iCQ v t j i := by
  rw [Bool.eq_iff_iff]
  simp only [iCQ, iCT, Bool.and_eq_true, decide_eq_true_eq]
  constructor
  · rintro ⟨e, a, b, c, d⟩
    exact ⟨c.trans e, b, a, c.symm, fun q => d q.symm⟩
  · rintro ⟨e, a, b, c, d⟩
    exact ⟨c.trans e, b, a, c.symm, fun q => d q.symm⟩
theorem iCQ_irr (v : CV) (t : Int32) (i : Nat) : iCQ v t i i = false := by rw [iCQ, iCT_irr, Bool.and_false]
theorem zpsm_all (v : CV) (n : Nat) : ∀ k, zpsm v (-(nI 6)) n k = zpq (iCT v) n k
  | 0 => rfl
  | k + 1 => by
    rw [zpsm, zpq, zpsm_all v n k, decide_eq_true rfl, Bool.true_or]
theorem cnt_0 (n : Nat) : cnt (fun _ => false) n = 0 := by
  induction n with
  | zero => rfl
  | succ n ih => rw [cnt_s, ih]; rfl
theorem zpsm_t (v : CV) {t : Int32} (ht : ¬ t = -(nI 6)) (n : Nat) : ∀ k, zpsm v t n k = zpq (iCQ v t) n k
  | 0 => rfl
  | k + 1 => by
    rw [zpsm, zpq, zpsm_t v ht n k, decide_eq_false ht, Bool.false_or]
    congr 1
    cases h : decide (v 3 k = t) with
    | true => exact cnt_congr (fun i _ => by rw [iCQ, h, Bool.true_and])
    | false =>
      rw [cnt_congr (p := fun i => iCQ v t i k) (q := fun _ => false) (fun i _ => by rw [iCQ, h, Bool.false_and]), cnt_0]
theorem zpsm_all2 (v : CV) (n : Nat) : zpsm v (-(nI 6)) n n / 2 = zps (iCT v) n n := by
  rw [zpsm_all, zpq_two (iCT_symm v) (iCT_irr v)]
  omega
theorem zpsm_t2 (v : CV) {t : Int32} (ht : ¬ t = -(nI 6)) (n : Nat) : zpsm v t n n = 2 * zps (iCQ v t) n n := by
  rw [zpsm_t v ht, zpq_two (iCQ_symm v t) (iCQ_irr v t)]
/-- by stances -/
def sN (v : CV) (t : Int32) (s n : Nat) : Nat := cnt (iTS v t (nI s)) n
theorem zps_st (v : CV) (t : Int32) : ∀ m, (∀ j, j < m → ∃ c, c < 3 ∧ v 4 j = nI c) → zps (iCQ v t) m m = sN v t 0 m * sN v t 1 m + sN v t 0 m * sN v t 2 m + sN v t 1 m * sN v t 2 m
  | 0, _ => rfl
  | m + 1, h => by
    rw [zps_sq, zps_st v t m (fun j hj => h j (by omega))]
    have hs : ∀ s, sN v t s (m + 1) = sN v t s m + bN (iTS v t (nI s) m) := fun s => cnt_s _ _
    obtain ⟨c, hc, hc2⟩ := h m (by omega)
    have hT : ∀ s, s < 3 → iTS v t (nI s) m = (iT v t m && decide (c = s)) := by
      intro s hs3
      rw [iTS, hc2]
      congr 1
      exact decide_eq_decide.mpr (nI_eq (by omega) (by omega))
    -- the laws before that contradict it
    have hcnt : cnt (fun a => iCQ v t a m) m = (match iT v t m with
        | true => (if c = 0 then 0 else sN v t 0 m) + (if c = 1 then 0 else sN v t 1 m) + (if c = 2 then 0 else sN v t 2 m)
        | false => 0) := by
      cases hi : iT v t m with
      | false =>
        rw [cnt_congr (p := fun a => iCQ v t a m) (q := fun _ => false) (fun i _ => ?_), cnt_0]
        rw [Bool.eq_false_iff]
        intro q
        simp only [iCQ, iCT, Bool.and_eq_true, decide_eq_true_eq] at q
        rw [iT, q.2.2.1, decide_eq_true q.1] at hi
        cases hi
      | true =>
        have hi2 : iF v m = true ∧ v 3 m = t := by
          simp only [iT, Bool.and_eq_true, decide_eq_true_eq] at hi
          exact hi
        have key : ∀ k, k ≤ m → cnt (fun a => iCQ v t a m) k = (if c = 0 then 0 else sN v t 0 k) + (if c = 1 then 0 else sN v t 1 k) + (if c = 2 then 0 else sN v t 2 k) := by
          intro k
          induction k with
          | zero => intro _; simp [sN, cnt]
          | succ k ih =>
            intro hk
            obtain ⟨d, hd, hd2⟩ := h k (by omega)
            have e : ∀ s, s < 3 → sN v t s (k + 1) = sN v t s k + bN (iT v t k && decide (d = s)) := by
              intro s hs3
              rw [sN, cnt_s, iTS, hd2, show decide (nI d = nI s) = decide (d = s) from decide_eq_decide.mpr (nI_eq (by omega) (by omega))]
              rfl
            have e2 : iCQ v t k m = (iT v t k && decide (¬ d = c)) := by
              rw [Bool.eq_iff_iff]
              simp only [iCQ, iCT, iT, Bool.and_eq_true, decide_eq_true_eq, hi2, hc2, hd2, true_and]
              rw [nI_eq (by omega) (by omega)]
              constructor
              · rintro ⟨a, b, e⟩
                exact ⟨⟨a, b⟩, e⟩
              · rintro ⟨⟨a, b⟩, e⟩
                exact ⟨a, b, e⟩
            rw [cnt_s, ih (by omega), e2, e 0 (by omega), e 1 (by omega), e 2 (by omega)]
            cases iT v t k with
            | false => simp [bN]
            | true =>
              rcases (show c = 0 ∨ c = 1 ∨ c = 2 by omega) with rfl | rfl | rfl <;> rcases (show d = 0 ∨ d = 1 ∨ d = 2 by omega) with rfl | rfl | rfl <;> simp [bN] <;> omega
        rw [key m (Nat.le_refl m)]
    rw [hcnt, hs 0, hs 1, hs 2, hT 0 (by omega), hT 1 (by omega), hT 2 (by omega)]
    cases iT v t m with
    | false => simp [bN]
    | true =>
      rcases (show c = 0 ∨ c = 1 ∨ c = 2 by omega) with rfl | rfl | rfl
      · simp [bN, Nat.add_mul]
        omega
      · simp [bN, Nat.mul_add, Nat.add_mul]
        omega
      · simp [bN, Nat.mul_add]
        omega
theorem zCI_z {v : CV} {n : Nat} (t : Int32) (hl : WL v n) : zCI v t n = nI (zps (iCQ v t) n n) := by
  rw [zps_st v t n (fun j hj => by obtain ⟨-, -, q, -⟩ := hl j hj; exact q), zCI, pk_mul, pk_mul, pk_mul, nI_add, nI_add]
  rfl
theorem zCI_pairs {v : CV} {n b : Nat} (hb : b < 6) (hl : WL v n) : zCI v (nI b) n = nI (zpsm v (nI b) n n / 2) := by
  rw [zCI_z _ hl, zpsm_t2 v (nI_ne_m6 (by omega)), Nat.mul_div_cancel_left _ (by decide)]
theorem zpsm_six {v : CV} {n : Nat} (hl : WL v n) (N : Nat) : ∀ k, k ≤ n → zpsm v (nI 0) N k + zpsm v (nI 1) N k + zpsm v (nI 2) N k + zpsm v (nI 3) N k + zpsm v (nI 4) N k + zpsm v (nI 5) N k = zpsm v (-(nI 6)) N k
  | 0, _ => rfl
  | k + 1, hk => by
    obtain ⟨-, ⟨b, hb, hb2⟩, -⟩ := hl k (by omega)
    have ih := zpsm_six hl N k (by omega)
    have e : ∀ s, s < 6 → (decide (nI s = -(nI 6)) || decide (v 3 k = nI s)) = decide (b = s) := by
      intro s hs
      rw [decide_eq_false (nI_ne_m6 (by omega)), Bool.false_or, hb2]
      exact decide_eq_decide.mpr (nI_eq (by omega) (by omega))
    simp only [zpsm]
    rw [e 0 (by omega), e 1 (by omega), e 2 (by omega), e 3 (by omega), e 4 (by omega), e 5 (by omega)]
    simp only [decide_true, Bool.true_or]
    rcases (show b = 0 ∨ b = 1 ∨ b = 2 ∨ b = 3 ∨ b = 4 ∨ b = 5 by omega) with rfl | rfl | rfl | rfl | rfl | rfl <;> simp <;> omega
theorem zsm_six {v : CV} {n : Nat} (hl : WL v n) : zsm (fun t => zCI v (nI t) n) 6 = nI (zpsm v (-(nI 6)) n n / 2) := by
  have h := zpsm_six hl n n (Nat.le_refl n)
  have e : ∀ b, b < 6 → zpsm v (nI b) n n = 2 * zps (iCQ v (nI b)) n n := fun b hb => zpsm_t2 v (nI_ne_m6 (by omega)) n
  rw [e 0 (by omega), e 1 (by omega), e 2 (by omega), e 3 (by omega), e 4 (by omega), e 5 (by omega)] at h
  simp only [zsm, zCI_z _ hl, nI_add]
  congr 1
  omega
