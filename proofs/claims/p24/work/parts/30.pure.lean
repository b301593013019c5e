/-! pure rows out of whole's parts 30 to 45 (printed by wip/p24/ext.py) -/
/-- the laws made have lengths, topics and stances; one in force has no law that repealed it -/
def WL (v : CV) (n : Nat) : Prop := ∀ j, j < n → (∃ a, 1 ≤ a ∧ a < 10 ∧ v 2 j = nI a) ∧ (∃ b, b < 6 ∧ v 3 j = nI b) ∧ (∃ c, c < 3 ∧ v 4 j = nI c) ∧ (iF v j = true → v 8 j = -(nI 6))
def iCT (v : CV) (i j : Nat) : Bool := iF v i && (iF v j && (decide (v 3 i = v 3 j) && decide (¬ v 4 i = v 4 j)))
/-- what the best so far is -/
theorem zho_inv (v : CV) (t : Int32) : ∀ i, zho v t i = (-(nI 6), nI 0) ∨ ∃ j, j < i ∧ zho v t i = (nI j, v 2 j) ∧ iT v t j = true
  | 0 => Or.inl rfl
  | i + 1 => by
    rw [zho]
    by_cases c : iT v t i = true ∧ ¬ v 2 i < (zho v t i).2
    · rw [if_pos c]
      exact Or.inr ⟨i, Nat.lt_succ_self i, rfl, c.1⟩
    · rw [if_neg c]
      rcases zho_inv v t i with h | ⟨j, h1, h2⟩
      · exact Or.inl h
      · exact Or.inr ⟨j, Nat.lt_succ_of_lt h1, h2⟩
theorem nI_ne_m6 {j : Nat} (h : j < 1000) : ¬ nI j = -(nI 6) := by
  intro q
  have h1 := nI_toInt (n := j) (by omega)
  rw [q] at h1
  have h2 : (-(nI 6)).toInt = -6 := by decide
  omega
def zpsm (v : CV) (t : Int32) (n : Nat) : Nat → Nat
  | 0 => 0
  | k + 1 => zpsm v t n k + (match decide (t = -(nI 6)) || decide (v 3 k = t) with
    | true => cnt (fun i => iCT v i k) n
    | false => 0)
theorem zWo_at (v : CV) {a b : Nat} (ha : a < 5) (hb : b < 6) : zWo v (nI a) (nI b) = v 1 (6 * a + b) := by
  have e3 : nI a * nI 6 + nI b = nI (6 * a + b) := by rw [pk_mul, nI_add, Nat.mul_comm]
  rw [zWo, e3, if_neg (nI_pos (by omega)), if_neg (nI_ge (by omega) (by decide)), nI_clamp (by omega)]
/-- a bill names none, or a law -/
def zNm (x : Int32) (n : Nat) : Prop := x = -(nI 6) ∨ ∃ j, j < n ∧ x = nI j
theorem zbr2_inv (v : CV) (l t s : Int32) : ∀ i, (zbr2 v l t s i).1 = -(nI 6) ∨ ∃ j, j < i ∧ (zbr2 v l t s i).1 = nI j
  | 0 => Or.inl rfl
  | i + 1 => by
    rw [zbr2]
    by_cases c : pHL v l i = true ∧ ¬ zVC v t s (nI i) ≤ (zbr2 v l t s i).2
    · rw [if_pos c]
      exact Or.inr ⟨i, Nat.lt_succ_self i, rfl⟩
    · rw [if_neg c]
      rcases zbr2_inv v l t s i with h | ⟨j, h1, h2⟩
      · exact Or.inl h
      · exact Or.inr ⟨j, Nat.lt_succ_of_lt h1, h2⟩
theorem zBR_nm (v : CV) (l t s : Int32) (n : Nat) : zNm (zBR v l t s n) n := zbr2_inv v l t s n
theorem upd_at {f : Nat → Int32} {k : Nat} {x : Int32} : upd f k x k = x := by simp [upd]
theorem upd_ne {f : Nat → Int32} {k j : Nat} {x : Int32} (h : ¬ j = k) : upd f k x j = f j := by simp [upd, h]
theorem cnt_congr {p q : Nat → Bool} : ∀ {n : Nat}, (∀ i, i < n → p i = q i) → cnt p n = cnt q n
  | 0, _ => rfl
  | n + 1, h => by
    rw [cnt, cnt, cnt_congr (fun i hi => h i (by omega)), h n (by omega)]
def bN (b : Bool) : Nat := match b with
  | true => 1
  | false => 0
theorem cnt_s (p : Nat → Bool) (n : Nat) : cnt p (n + 1) = cnt p n + bN (p n) := rfl
theorem zps_congr {q r : Nat → Nat → Bool} {n : Nat} (h : ∀ i j, i < n → j < n → q i j = r i j) : ∀ i, i ≤ n → zps q n i = zps r n i
  | 0, _ => rfl
  | i + 1, hi => by
    rw [zps, zps, zps_congr h i (by omega), cnt_congr (p := fun j => q i (i + 1 + j)) (q := fun j => r i (i + 1 + j)) (fun j hj => h i (i + 1 + j) (by omega) (by omega))]
theorem zps_step (q : Nat → Nat → Bool) (m : Nat) : ∀ i, i ≤ m → zps q (m + 1) i = zps q m i + cnt (fun a => q a m) i
  | 0, _ => rfl
  | i + 1, hi => by
    rw [zps, zps, zps_step q m i (by omega), cnt_s, show m + 1 - (i + 1) = (m - (i + 1)) + 1 by omega, cnt_s, show i + 1 + (m - (i + 1)) = m by omega]
    omega
theorem zps_sq (q : Nat → Nat → Bool) (m : Nat) : zps q (m + 1) (m + 1) = zps q m m + cnt (fun a => q a m) m := by
  rw [zps, zps_step q m m (Nat.le_refl m), Nat.sub_self]
  rfl
def zpq (q : Nat → Nat → Bool) (n : Nat) : Nat → Nat
  | 0 => 0
  | k + 1 => zpq q n k + cnt (fun i => q i k) n
theorem zpq_step (q : Nat → Nat → Bool) (m : Nat) : ∀ k, zpq q (m + 1) k = zpq q m k + cnt (fun a => q m a) k
  | 0 => rfl
  | k + 1 => by
    rw [zpq, zpq, zpq_step q m k, cnt_s, cnt_s]
    omega
theorem zpq_two {q : Nat → Nat → Bool} (hs : ∀ i j, q i j = q j i) (hi : ∀ i, q i i = false) : ∀ m, zpq q m m = 2 * zps q m m
  | 0 => rfl
  | m + 1 => by
    have e : (fun a => q m a) = (fun a => q a m) := funext (fun a => hs m a)
    rw [zps_sq, zpq, zpq_step, cnt_s, hi m, zpq_two hs hi m, e, bN]
    omega
theorem iCT_symm (v : CV) (i j : Nat) : iCT v i j = iCT v j i := by
  rw [Bool.eq_iff_iff]
  simp only [iCT, Bool.and_eq_true, decide_eq_true_eq]
  constructor
  · rintro ⟨a, b, c, d⟩
    exact ⟨b, a, c.symm, fun q => d q.symm⟩
  · rintro ⟨a, b, c, d⟩
    exact ⟨b, a, c.symm, fun q => d q.symm⟩
theorem iCT_irr (v : CV) (i : Nat) : iCT v i i = false := by simp [iCT]
theorem zCT_at {v : CV} {n i j : Nat} (hm : WM v n) (hi : i < n) (hj : j < n) : zCT v (nI i) (nI j) = iCT v i j := by
  rw [zCT, zF_at hm hi, zF_at hm hj, zcl hm.2 hi, zcl hm.2 hj]
  rfl
theorem zps_CT {v : CV} {n : Nat} (hm : WM v n) : zps (fun i j => zCT v (nI i) (nI j)) n n = zps (iCT v) n n := zps_congr (fun _ _ hi hj => zCT_at hm hi hj) n (Nat.le_refl n)
/-- the pairs in a topic -/
def iCQ (v : CV) (t : Int32) (i k : Nat) : Bool := decide (v 3 k = t) && iCT v i k
theorem iCQ_symm (v : CV) (t : Int32) (i j : Nat) : iCQ v t i j = iCQ v t j i := by
  rw [Bool.eq_iff_iff]
  simp only [iCQ, iCT, Bool.and_eq_true, decide_eq_true_eq]
  constructor
  · rintro ⟨e, a, b, c, d⟩
    exact ⟨c.trans e, b, a, c.symm, fun q => d q.symm⟩
  · rintro ⟨e, a, b, c, d⟩
    exact ⟨c.trans e, b, a, c.symm, fun q => d q.symm⟩
theorem iCQ_irr (v : CV) (t : Int32) (i : Nat) : iCQ v t i i = false := by rw [iCQ, iCT_irr, Bool.and_false]
theorem zpsm_all (v : CV) (n : Nat) : ∀ k, zpsm v (-(nI 6)) n k = zpq (iCT v) n k
  | 0 => rfl
  | k + 1 => by
    rw [zpsm, zpq, zpsm_all v n k, decide_eq_true rfl, Bool.true_or]
theorem cnt_0 (n : Nat) : cnt (fun _ => false) n = 0 := by
  induction n with
  | zero => rfl
  | succ n ih => rw [cnt_s, ih]; rfl
theorem zpsm_t (v : CV) {t : Int32} (ht : ¬ t = -(nI 6)) (n : Nat) : ∀ k, zpsm v t n k = zpq (iCQ v t) n k
  | 0 => rfl
  | k + 1 => by
    rw [zpsm, zpq, zpsm_t v ht n k, decide_eq_false ht, Bool.false_or]
    congr 1
    cases h : decide (v 3 k = t) with
    | true => exact cnt_congr (fun i _ => by rw [iCQ, h, Bool.true_and])
    | false =>
      rw [cnt_congr (p := fun i => iCQ v t i k) (q := fun _ => false) (fun i _ => by rw [iCQ, h, Bool.false_and]), cnt_0]
theorem zpsm_all2 (v : CV) (n : Nat) : zpsm v (-(nI 6)) n n / 2 = zps (iCT v) n n := by
  rw [zpsm_all, zpq_two (iCT_symm v) (iCT_irr v)]
  omega
theorem zpsm_t2 (v : CV) {t : Int32} (ht : ¬ t = -(nI 6)) (n : Nat) : zpsm v t n n = 2 * zps (iCQ v t) n n := by
  rw [zpsm_t v ht, zpq_two (iCQ_symm v t) (iCQ_irr v t)]
/-- by stances -/
def sN (v : CV) (t : Int32) (s n : Nat) : Nat := cnt (iTS v t (nI s)) n
theorem zps_st (v : CV) (t : Int32) : ∀ m, (∀ j, j < m → ∃ c, c < 3 ∧ v 4 j = nI c) → zps (iCQ v t) m m = sN v t 0 m * sN v t 1 m + sN v t 0 m * sN v t 2 m + sN v t 1 m * sN v t 2 m
  | 0, _ => rfl
  | m + 1, h => by
    rw [zps_sq, zps_st v t m (fun j hj => h j (by omega))]
    have hs : ∀ s, sN v t s (m + 1) = sN v t s m + bN (iTS v t (nI s) m) := fun s => cnt_s _ _
    obtain ⟨c, hc, hc2⟩ := h m (by omega)
    have hT : ∀ s, s < 3 → iTS v t (nI s) m = (iT v t m && decide (c = s)) := by
      intro s hs3
      rw [iTS, hc2]
      congr 1
      exact decide_eq_decide.mpr (nI_eq (by omega) (by omega))
    -- the laws before that contradict it
    have hcnt : cnt (fun a => iCQ v t a m) m = (match iT v t m with
        | true => (if c = 0 then 0 else sN v t 0 m) + (if c = 1 then 0 else sN v t 1 m) + (if c = 2 then 0 else sN v t 2 m)
        | false => 0) := by
      cases hi : iT v t m with
      | false =>
        rw [cnt_congr (p := fun a => iCQ v t a m) (q := fun _ => false) (fun i _ => ?_), cnt_0]
        rw [Bool.eq_false_iff]
        intro q
        simp only [iCQ, iCT, Bool.and_eq_true, decide_eq_true_eq] at q
        rw [iT, q.2.2.1, decide_eq_true q.1] at hi
        cases hi
      | true =>
        have hi2 : iF v m = true ∧ v 3 m = t := by
          simp only [iT, Bool.and_eq_true, decide_eq_true_eq] at hi
          exact hi
        have key : ∀ k, k ≤ m → cnt (fun a => iCQ v t a m) k = (if c = 0 then 0 else sN v t 0 k) + (if c = 1 then 0 else sN v t 1 k) + (if c = 2 then 0 else sN v t 2 k) := by
          intro k
          induction k with
          | zero => intro _; simp [sN, cnt]
          | succ k ih =>
            intro hk
            obtain ⟨d, hd, hd2⟩ := h k (by omega)
            have e : ∀ s, s < 3 → sN v t s (k + 1) = sN v t s k + bN (iT v t k && decide (d = s)) := by
              intro s hs3
              rw [sN, cnt_s, iTS, hd2, show decide (nI d = nI s) = decide (d = s) from decide_eq_decide.mpr (nI_eq (by omega) (by omega))]
              rfl
            have e2 : iCQ v t k m = (iT v t k && decide (¬ d = c)) := by
              rw [Bool.eq_iff_iff]
              simp only [iCQ, iCT, iT, Bool.and_eq_true, decide_eq_true_eq, hi2, hc2, hd2, true_and]
              rw [nI_eq (by omega) (by omega)]
              constructor
              · rintro ⟨a, b, e⟩
                exact ⟨⟨a, b⟩, e⟩
              · rintro ⟨⟨a, b⟩, e⟩
                exact ⟨a, b, e⟩
            rw [cnt_s, ih (by omega), e2, e 0 (by omega), e 1 (by omega), e 2 (by omega)]
            cases iT v t k with
            | false => simp [bN]
            | true =>
              rcases (show c = 0 ∨ c = 1 ∨ c = 2 by omega) with rfl | rfl | rfl <;> rcases (show d = 0 ∨ d = 1 ∨ d = 2 by omega) with rfl | rfl | rfl <;> simp [bN] <;> omega
        rw [key m (Nat.le_refl m)]
    rw [hcnt, hs 0, hs 1, hs 2, hT 0 (by omega), hT 1 (by omega), hT 2 (by omega)]
    cases iT v t m with
    | false => simp [bN]
    | true =>
      rcases (show c = 0 ∨ c = 1 ∨ c = 2 by omega) with rfl | rfl | rfl
      · simp [bN, Nat.add_mul]
        omega
      · simp [bN, Nat.mul_add, Nat.add_mul]
        omega
      · simp [bN, Nat.mul_add]
        omega
theorem zCI_z {v : CV} {n : Nat} (t : Int32) (hl : WL v n) : zCI v t n = nI (zps (iCQ v t) n n) := by
  rw [zps_st v t n (fun j hj => by obtain ⟨-, -, q, -⟩ := hl j hj; exact q), zCI, pk_mul, pk_mul, pk_mul, nI_add, nI_add]
  rfl
theorem zCI_pairs {v : CV} {n b : Nat} (hb : b < 6) (hl : WL v n) : zCI v (nI b) n = nI (zpsm v (nI b) n n / 2) := by
  rw [zCI_z _ hl, zpsm_t2 v (nI_ne_m6 (by omega)), Nat.mul_div_cancel_left _ (by decide)]
theorem zpsm_six {v : CV} {n : Nat} (hl : WL v n) (N : Nat) : ∀ k, k ≤ n → zpsm v (nI 0) N k + zpsm v (nI 1) N k + zpsm v (nI 2) N k + zpsm v (nI 3) N k + zpsm v (nI 4) N k + zpsm v (nI 5) N k = zpsm v (-(nI 6)) N k
  | 0, _ => rfl
  | k + 1, hk => by
    obtain ⟨-, ⟨b, hb, hb2⟩, -⟩ := hl k (by omega)
    have ih := zpsm_six hl N k (by omega)
    have e : ∀ s, s < 6 → (decide (nI s = -(nI 6)) || decide (v 3 k = nI s)) = decide (b = s) := by
      intro s hs
      rw [decide_eq_false (nI_ne_m6 (by omega)), Bool.false_or, hb2]
      exact decide_eq_decide.mpr (nI_eq (by omega) (by omega))
    simp only [zpsm]
    rw [e 0 (by omega), e 1 (by omega), e 2 (by omega), e 3 (by omega), e 4 (by omega), e 5 (by omega)]
    simp only [decide_true, Bool.true_or]
    rcases (show b = 0 ∨ b = 1 ∨ b = 2 ∨ b = 3 ∨ b = 4 ∨ b = 5 by omega) with rfl | rfl | rfl | rfl | rfl | rfl <;> simp <;> omega
theorem zsm_six {v : CV} {n : Nat} (hl : WL v n) : zsm (fun t => zCI v (nI t) n) 6 = nI (zpsm v (-(nI 6)) n n / 2) := by
  have h := zpsm_six hl n n (Nat.le_refl n)
  have e : ∀ b, b < 6 → zpsm v (nI b) n n = 2 * zps (iCQ v (nI b)) n n := fun b hb => zpsm_t2 v (nI_ne_m6 (by omega)) n
  rw [e 0 (by omega), e 1 (by omega), e 2 (by omega), e 3 (by omega), e 4 (by omega), e 5 (by omega)] at h
  simp only [zsm, zCI_z _ hl, nI_add]
  congr 1
  omega
theorem nI_nn {j : Nat} (h : j < 2 ^ 31) : ¬ nI j = -(nI 6) := by
  intro q
  have h1 := nI_toInt h
  rw [q] at h1
  have h2 : (-(nI 6)).toInt = -6 := by decide
  omega
theorem WL_EN1 {v : CV} {l t s x : Int32} {n : Nat} (hl : WL v n) (vl : ∃ a, 1 ≤ a ∧ a < 10 ∧ l = nI a) (vt : ∃ b, b < 6 ∧ t = nI b) (vs : ∃ c, c < 3 ∧ s = nI c) : WL (zEN1 v l t s x n) (n + 1) := by
  intro j hj
  show (∃ a, 1 ≤ a ∧ a < 10 ∧ upd (v 2) n l j = nI a) ∧ (∃ b, b < 6 ∧ upd (v 3) n t j = nI b) ∧ (∃ c, c < 3 ∧ upd (v 4) n s j = nI c) ∧ (decide (upd (v 6) n (-(nI 6)) j = -(nI 6)) = true → upd (v 8) n (-(nI 6)) j = -(nI 6))
  by_cases e : j = n
  · subst e
    rw [upd_at, upd_at, upd_at, upd_at, upd_at]
    exact ⟨vl, vt, vs, fun _ => rfl⟩
  · rw [upd_ne e, upd_ne e, upd_ne e, upd_ne e, upd_ne e]
    exact hl j (by omega)
theorem WL_EL {v : CV} {n : Nat} {x w : Int32} (hm : WM v n) (hl : WL v n) (hs : ¬ v 10 0 = -(nI 6)) : WL (zEL v x w) n := by
  rw [zEL]
  cases h : zL v x with
  | false => exact hl
  | true =>
    intro j hj
    show (∃ a, 1 ≤ a ∧ a < 10 ∧ v 2 j = nI a) ∧ (∃ b, b < 6 ∧ v 3 j = nI b) ∧ (∃ c, c < 3 ∧ v 4 j = nI c) ∧ (decide (upd (v 6) x.toNatClampNeg (v 10 0) j = -(nI 6)) = true → upd (v 8) x.toNatClampNeg w j = -(nI 6))
    obtain ⟨h1, h2, h3, h4⟩ := hl j hj
    refine ⟨h1, h2, h3, ?_⟩
    by_cases e : j = x.toNatClampNeg
    · rw [e, upd_at]
      exact fun q => absurd (of_decide_eq_true q) hs
    · rw [upd_ne e, upd_ne e]
      exact h4
theorem WL_EN {v : CV} {l t s x : Int32} {n : Nat} (hn : n < 80) (hl : WL v n) (hs : ¬ v 10 0 = -(nI 6)) (vl : ∃ a, 1 ≤ a ∧ a < 10 ∧ l = nI a) (vt : ∃ b, b < 6 ∧ t = nI b) (vs : ∃ c, c < 3 ∧ s = nI c) : WL (zEN v l t s x n) (n + 1) := WL_EL (v := zEN1 v l t s x n) (n := n + 1) ⟨rfl, hn⟩ (WL_EN1 hl vl vt vs) hs
theorem zEL_10 (v : CV) (x w : Int32) : zEL v x w 10 0 = v 10 0 := by
  rw [zEL]
  cases zL v x <;> rfl
theorem zEN_10 (v : CV) (l t s x : Int32) (n : Nat) : zEN v l t s x n 10 0 = v 10 0 := zEL_10 _ _ _
theorem zVo_10 (v : CV) (l t s : Int32) : zVo v l t s 10 0 = v 10 0 := by
  rw [zVo]
  cases zPass v l t s (mk v) with
  | true => exact zEN_10 _ _ _ _ _ _
  | false => rfl
/-- the state of the class -/
abbrev ZX : Type := CV × (Nat → CV) × Nat × Nat × (Nat → CV) × (Nat → Int32) × (Nat → Int32) × Nat
abbrev ZX.v (x : ZX) : CV := x.1
abbrev ZX.hv (x : ZX) : Nat → CV := x.2.1
abbrev ZX.o (x : ZX) : Nat := x.2.2.1
abbrev ZX.k (x : ZX) : Nat := x.2.2.2.1
abbrev ZX.sv (x : ZX) : Nat → CV := x.2.2.2.2.1
abbrev ZX.fl (x : ZX) : Nat → Int32 := x.2.2.2.2.2.1
abbrev ZX.ps (x : ZX) : Nat → Int32 := x.2.2.2.2.2.2.1
abbrev ZX.q (x : ZX) : Nat := x.2.2.2.2.2.2.2
def ZX.h (x : ZX) : List ZC := hX x.v x.hv (nI x.o) (nI x.k) x.sv x.fl x.ps (nI x.q)
theorem hup_at (hv : Nat → CV) (p : Nat) (w : CV) : hup hv p w p = w := by
  unfold hup
  rw [Nat.beq_refl]
theorem hup_ne {hv : Nat → CV} {p j : Nat} {w : CV} (h : ¬ j = p) : hup hv p w j = hv j := by
  unfold hup
  rw [show Nat.beq j p = false from Bool.eq_false_iff.mpr (fun q => h (Nat.eq_of_beq_eq_true q))]
/-- the class's state behind a change that is remembered -/
def ZX.rem (x : ZX) (w : CV) : ZX := (w, hup x.hv ((x.o + x.k) % 6) x.v, (if x.k < 6 then x.o else (x.o + 1) % 6), (if x.k < 6 then x.k + 1 else 6), x.sv, x.fl, x.ps, x.q)
