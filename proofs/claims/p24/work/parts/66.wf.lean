/-! what the class tells of a code in order: sums, pairs, the best bill -/
theorem zsm_nI {f : Nat → Nat} : ∀ n, zsm (fun i => nI (f i)) n = nI ((List.range n).map f).sum
  | 0 => rfl
  | n + 1 => by
    rw [zsm, zsm_nI n, nI_add, List.range_succ, List.map_append, List.sum_append]
    simp
/-- contradictions law by law: twice the pairs -/
theorem zpq_row {q : Nat → Nat → Bool} (hs : ∀ i j, q i j = q j i) (n : Nat) : ∀ k, zsm (fun i => nI (cnt (fun j => q i j) n)) k = nI (zpq q n k)
  | 0 => rfl
  | k + 1 => by
    rw [zsm, zpq, zpq_row hs n k, nI_add]
    congr 2
    exact cnt_congr (fun i _ => hs k i)
theorem w_against {v : CV} {n : Nat} (hm : WM v n) : zsm (fun i => nI (cnt (fun j => zCT v (nI i) (nI j)) n)) n = nI 2 * nI (zps (fun i j => zCT v (nI i) (nI j)) n n) := by
  rw [zsm_congr (g := fun i => nI (cnt (fun j => iCT v i j) n)) (fun i hi => by rw [cnt_congr (fun j hj => zCT_at hm hi hj)]), zpq_row (iCT_symm v), zpq_two (iCT_symm v) (iCT_irr v), zps_CT hm, pk_mul]
theorem w_89 {v : CV} {n : Nat} (hm : WM v n) (hl : WL v n) : nI (zps (fun i j => zCT v (nI i) (nI j)) n n) = zsm (fun t => zCI v (nI t) n) 6 := by rw [c9_8 hl, zps_CT hm]
/-- laws topic by topic -/
theorem w_many {v : CV} : ∀ {n : Nat}, WL v n → cnt (iT v (nI 0)) n + cnt (iT v (nI 1)) n + cnt (iT v (nI 2)) n + cnt (iT v (nI 3)) n + cnt (iT v (nI 4)) n + cnt (iT v (nI 5)) n = cnt (iF v) n
  | 0, _ => rfl
  | n + 1, h => by
    have ih := w_many (v := v) (n := n) (fun j hj => h j (by omega))
    obtain ⟨-, ⟨b, hb, eb⟩, -⟩ := h n (by omega)
    have e : ∀ t, t < 6 → iT v (nI t) n = (iF v n && decide (b = t)) := by
      intro t ht
      rw [iT, eb]
      congr 1
      exact decide_eq_decide.mpr (nI_eq (by omega) (by omega))
    simp only [cnt_s]
    rw [e 0 (by omega), e 1 (by omega), e 2 (by omega), e 3 (by omega), e 4 (by omega), e 5 (by omega)]
    cases iF v n with
    | false => simp [bN]; omega
    | true => rcases (show b = 0 ∨ b = 1 ∨ b = 2 ∨ b = 3 ∨ b = 4 ∨ b = 5 by omega) with rfl | rfl | rfl | rfl | rfl | rfl <;> simp [bN] <;> omega
theorem w_many6 {v : CV} {n : Nat} (h : WL v n) : zsm (fun t => nI (cnt (iT v (nI t)) n)) 6 = nI (cnt (iF v) n) := by
  rw [← w_many h]
  simp only [zsm, nI_add]
  congr 1
  omega
/-- nothing holds in a topic without a law in force -/
theorem zho_none {v : CV} {t : Int32} {N : Nat} (hN : N ≤ 80) (hl : WL v N) : ∀ k, k ≤ N → (zho v t k).1 = -(nI 6) → (zho v t k).2 = nI 0 ∧ cnt (iT v t) k = 0
  | 0, _, _ => ⟨rfl, rfl⟩
  | k + 1, hk, h => by
    rw [zho] at h ⊢
    by_cases c : iT v t k = true ∧ ¬ v 2 k < (zho v t k).2
    · rw [if_pos c] at h
      exact absurd h (nI_nn (by omega))
    · rw [if_neg c] at h ⊢
      obtain ⟨h1, h2⟩ := zho_none hN hl k (by omega) h
      refine ⟨h1, ?_⟩
      rw [cnt_s, h2]
      cases e : iT v t k with
      | false => rfl
      | true =>
        obtain ⟨⟨a, a1, a2, ea⟩, -⟩ := hl k (by omega)
        exact absurd ⟨e, by rw [h1, ea]; exact nI_nlt (Nat.zero_le a) (by omega)⟩ c
/-- the holder: none, or a law in force of the topic -/
theorem w_holder {v : CV} {n : Nat} (hm : WM v n) (hl : WL v n) (t : Int32) : (zH v t n = -(nI 6) ∧ zST v t n = -(nI 6) ∧ cnt (iT v t) n = 0) ∨ ∃ j, j < n ∧ zH v t n = nI j ∧ iF v j = true ∧ v 3 j = t ∧ zST v t n = v 4 j := by
  rcases zho_inv v t n with h | ⟨j, h1, h2, h3⟩
  · left
    have e : zH v t n = -(nI 6) := by rw [zH, h]
    refine ⟨e, ?_, (zho_none hm.2 hl n (Nat.le_refl n) e).2⟩
    rw [zST, e, zL_no1 (by decide)]
  · right
    have e : zH v t n = nI j := by rw [zH, h2]
    rw [iT, Bool.and_eq_true, decide_eq_true_eq] at h3
    refine ⟨j, h1, e, h3.1, h3.2, ?_⟩
    rw [zST, e, zL_at hm h1, zcl hm.2 h1]
/-! the best bill -/
def bC (k : Nat) : Int32 := nI 100 * nI (k / 18 + 1) + nI 10 * nI (k / 3 % 6) + nI (k % 3)
def bV (v : CV) (n k : Nat) : Int32 := zVI v (nI (k / 18 + 1)) (nI (k / 3 % 6)) (nI (k % 3)) n
theorem bV_or (v : CV) (n k : Nat) : bV v n k = -(nI 6) ∨ ∃ c, c ≤ 5 ∧ bV v n k = nI c := by
  rw [bV, zVI]
  split
  · exact Or.inr ⟨_, cnt_le _ 5, rfl⟩
  · exact Or.inl rfl
theorem m6_le {c : Nat} (h : c < 2 ^ 31) : -(nI 6) ≤ nI c := by
  rw [Int32.le_iff_toInt_le, nI_toInt h, show (-(nI 6)).toInt = -6 by decide]
  omega
theorem m6_nle {c : Nat} (h : c < 2 ^ 31) : ¬ nI c ≤ -(nI 6) := by
  rw [Int32.le_iff_toInt_le, nI_toInt h, show (-(nI 6)).toInt = -6 by decide]
  omega
theorem zBB_s (v : CV) (n k : Nat) : zBB v n (k + 1) = if bV v n k ≤ (zBB v n k).2 then zBB v n k else (bC k, bV v n k) := rfl
theorem zBB_inv (v : CV) (n : Nat) : ∀ k, (zBB v n k = (-(nI 6), -(nI 6)) ∧ ∀ i, i < k → bV v n i = -(nI 6)) ∨ ∃ i c, i < k ∧ c ≤ 5 ∧ bV v n i = nI c ∧ zBB v n k = (bC i, nI c) ∧ (∀ j, j < k → bV v n j ≤ nI c) ∧ ∀ j, j < i → ¬ bV v n j = nI c
  | 0 => Or.inl ⟨rfl, fun i hi => absurd hi (Nat.not_lt_zero i)⟩
  | k + 1 => by
    rw [zBB_s]
    rcases zBB_inv v n k with ⟨h1, h2⟩ | ⟨i, c, h1, h2, h3, h4, h5, h6⟩
    · rw [h1]
      rcases bV_or v n k with e | ⟨c, c1, e⟩
      · left
        rw [if_pos (by rw [e]; exact Int32.le_refl _)]
        refine ⟨rfl, fun i hi => ?_⟩
        by_cases q : i = k
        · subst q; exact e
        · exact h2 i (by omega)
      · right
        rw [if_neg (by rw [e]; exact m6_nle (by omega))]
        refine ⟨k, c, Nat.lt_succ_self k, c1, e, by rw [e], fun j hj => ?_, fun j hj => by rw [h2 j hj]; exact fun q => nI_nn (by omega) q.symm⟩
        by_cases q : j = k
        · subst q; rw [e]; exact Int32.le_refl _
        · rw [h2 j (by omega)]; exact m6_le (by omega)
    · right
      rw [h4]
      by_cases g : bV v n k ≤ nI c
      · rw [if_pos g]
        refine ⟨i, c, by omega, h2, h3, rfl, fun j hj => ?_, h6⟩
        by_cases q : j = k
        · subst q; exact g
        · exact h5 j (by omega)
      · rw [if_neg g]
        rcases bV_or v n k with e | ⟨d, d1, e⟩
        · exact absurd (by rw [e]; exact m6_le (by omega)) g
        · rw [e] at g
          have hcd : c < d := by
            rcases Nat.lt_or_ge c d with z | z
            · exact z
            · exact absurd (nI_le z (by omega)) g
          refine ⟨k, d, Nat.lt_succ_self k, d1, e, by rw [e], fun j hj => ?_, fun j hj q => ?_⟩
          · by_cases q : j = k
            · subst q; rw [e]; exact Int32.le_refl _
            · exact Int32.le_trans (h5 j (by omega)) (nI_le (by omega) (by omega))
          · have h7 := h5 j hj
            rw [q] at h7
            exact nI_ge hcd (by omega) h7
/-- where a bill's mirror stands -/
def bM (k : Nat) : Nat := 18 * (k / 18) + 3 * (5 - k / 3 % 6) + (k % 3 + 1) % 3
theorem bM_lt {k : Nat} (h : k < 162) : bM k < 162 ∧ bM k / 18 = k / 18 ∧ bM k / 3 % 6 = 5 - k / 3 % 6 ∧ bM k % 3 = (k % 3 + 1) % 3 := by
  unfold bM
  omega
theorem bM_on {k : Nat} (h : k < 162) : ∃ j, j < 162 ∧ bM j = k ∧ j / 18 = k / 18 := by
  refine ⟨18 * (k / 18) + 3 * (5 - k / 3 % 6) + (k % 3 + 2) % 3, ?_⟩
  unfold bM
  omega
theorem bV_M {n : Nat} {v w : CV} (hr : MR n v w) (hm : WM v n) (hl : WL v n) {k : Nat} (h : k < 162) : bV w n (bM k) = bV v n k := by
  obtain ⟨a, b, c, d⟩ := bM_lt h
  rw [bV, bV, b, c, d, ← nx_at (show k % 3 < 3 by omega), mr_VI hr hm hl (by omega)]
theorem bC_at : ∀ k, k < 162 → bC k / nI 100 = nI (k / 18 + 1) ∧ bC k / nI 10 - bC k / nI 10 / nI 10 * nI 10 = nI (k / 3 % 6) ∧ bC k - bC k / nI 10 * nI 10 = nI (k % 3) ∧ ¬ bC k < 0 := by
  intro k hk
  have e : bC k = nI (100 * (k / 18 + 1) + 10 * (k / 3 % 6) + k % 3) := by rw [bC, pk_mul, pk_mul, nI_add, nI_add]
  rw [e]
  refine ⟨?_, ?_, ?_, nI_pos (by omega)⟩
  · rw [pk_div (by omega) (by decide) (by decide)]
    congr 1
    omega
  · rw [pk_div (by omega) (by decide) (by decide), pk_rem (by omega) (by decide) (by decide)]
    congr 1
    omega
  · rw [pk_rem (by omega) (by decide) (by decide)]
    congr 1
    omega
/-- the best bills of both: none; or as long, and with as many votes -/
theorem best_M {n : Nat} {v w : CV} (hr : MR n v w) (hm : WM v n) (hl : WL v n) : (zBest v n < 0 ∧ zBest w n = zBest v n) ∨ ∃ i j c, c ≤ 5 ∧ i < 162 ∧ j < 162 ∧ zBest v n = bC i ∧ zBest w n = bC j ∧ i / 18 = j / 18 ∧ bV v n i = nI c ∧ bV w n j = nI c := by
  rw [zBest, zBest, mr_Full hr]
  cases zFull v with
  | true =>
    have e : -(nI 4) < (0 : Int32) := by decide
    exact Or.inl ⟨e, rfl⟩
  | false =>
    show ((zBB v n 162).1 < 0 ∧ (zBB w n 162).1 = (zBB v n 162).1) ∨ ∃ i j c, c ≤ 5 ∧ i < 162 ∧ j < 162 ∧ (zBB v n 162).1 = bC i ∧ (zBB w n 162).1 = bC j ∧ i / 18 = j / 18 ∧ bV v n i = nI c ∧ bV w n j = nI c
    rcases zBB_inv v n 162 with ⟨h1, h2⟩ | ⟨i, c, h1, h2, h3, h4, h5, h6⟩
    · rcases zBB_inv w n 162 with ⟨g1, g2⟩ | ⟨j, d, g1, g2, g3, g4, g5, g6⟩
      · left
        rw [h1, g1]
        exact ⟨by decide, rfl⟩
      · obtain ⟨k, k1, k2, k3⟩ := bM_on g1
        have e := bV_M hr hm hl k1
        rw [k2, g3, h2 k k1] at e
        exact absurd e (nI_nn (by omega))
    · rcases zBB_inv w n 162 with ⟨g1, g2⟩ | ⟨j, d, g1, g2, g3, g4, g5, g6⟩
      · have e := bV_M hr hm hl h1
        rw [g2 _ (bM_lt h1).1, h3] at e
        exact absurd e.symm (nI_nn (by omega))
      · right
        obtain ⟨k, k1, k2, k3⟩ := bM_on g1
        have e1 := bV_M hr hm hl k1
        rw [k2, g3] at e1
        have e2 := bV_M hr hm hl h1
        rw [h3] at e2
        have q1 := h5 k k1
        rw [← e1] at q1
        have q2 := g5 _ (bM_lt h1).1
        rw [e2] at q2
        have q3 : d ≤ c := (nI_leI (by omega) (by omega)).mp q1
        have q4 : c ≤ d := (nI_leI (by omega) (by omega)).mp q2
        have ecd : d = c := by omega
        subst ecd
        refine ⟨i, j, d, h2, h1, g1, by rw [h4], by rw [g4], ?_, h3, g3⟩
        have r1 : i ≤ k := by
          rcases Nat.lt_or_ge k i with z | z
          · exact absurd e1.symm (h6 k z)
          · exact z
        have r2 : j ≤ bM i := by
          rcases Nat.lt_or_ge (bM i) j with z | z
          · exact absurd e2 (g6 _ z)
          · exact z
        have r3 := (bM_lt h1).2.1
        omega
