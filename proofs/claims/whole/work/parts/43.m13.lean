/-! RepealedLawsModel: what read does -/
theorem nI_nn {j : Nat} (h : j < 2 ^ 31) : ¬ nI j = -(nI 6) := by
  intro q
  have h1 := nI_toInt h
  rw [q] at h1
  have h2 : (-(nI 6)).toInt = -6 := by decide
  omega
theorem WL_se {v : CV} {n : Nat} (hl : WL v n) : WL (zSe v) n := hl
theorem WL_fl {v : CV} {n : Nat} {x : Int32} (hl : WL v n) : WL (vup v 11 (upd (v 11) 0 x)) n := hl
theorem WL_EN1 {v : CV} {l t s x : Int32} {n : Nat} (hl : WL v n) (vl : ∃ a, 1 ≤ a ∧ a < 10 ∧ l = nI a) (vt : ∃ b, b < 6 ∧ t = nI b) (vs : ∃ c, c < 3 ∧ s = nI c) : WL (zEN1 v l t s x n) (n + 1) := by
  intro j hj
  show (∃ a, 1 ≤ a ∧ a < 10 ∧ upd (v 2) n l j = nI a) ∧ (∃ b, b < 6 ∧ upd (v 3) n t j = nI b) ∧ (∃ c, c < 3 ∧ upd (v 4) n s j = nI c) ∧ (decide (upd (v 6) n (-(nI 6)) j = -(nI 6)) = true → upd (v 8) n (-(nI 6)) j = -(nI 6))
  by_cases e : j = n
  · subst e
    rw [upd_at, upd_at, upd_at, upd_at, upd_at]
    exact ⟨vl, vt, vs, fun _ => rfl⟩
  · rw [upd_ne e, upd_ne e, upd_ne e, upd_ne e, upd_ne e]
    exact hl j (by omega)
theorem WL_EL {v : CV} {n : Nat} {x w : Int32} (hm : WM v n) (hl : WL v n) (hs : ¬ v 10 0 = -(nI 6)) : WL (zEL v x w) n := by
  rw [zEL]
  cases h : zL v x with
  | false => exact hl
  | true =>
    intro j hj
    show (∃ a, 1 ≤ a ∧ a < 10 ∧ v 2 j = nI a) ∧ (∃ b, b < 6 ∧ v 3 j = nI b) ∧ (∃ c, c < 3 ∧ v 4 j = nI c) ∧ (decide (upd (v 6) x.toNatClampNeg (v 10 0) j = -(nI 6)) = true → upd (v 8) x.toNatClampNeg w j = -(nI 6))
    obtain ⟨h1, h2, h3, h4⟩ := hl j hj
    refine ⟨h1, h2, h3, ?_⟩
    by_cases e : j = x.toNatClampNeg
    · rw [e, upd_at]
      exact fun q => absurd (of_decide_eq_true q) hs
    · rw [upd_ne e, upd_ne e]
      exact h4
theorem WL_EN {v : CV} {l t s x : Int32} {n : Nat} (hn : n < 80) (hl : WL v n) (hs : ¬ v 10 0 = -(nI 6)) (vl : ∃ a, 1 ≤ a ∧ a < 10 ∧ l = nI a) (vt : ∃ b, b < 6 ∧ t = nI b) (vs : ∃ c, c < 3 ∧ s = nI c) : WL (zEN v l t s x n) (n + 1) := WL_EL (v := zEN1 v l t s x n) (n := n + 1) ⟨rfl, hn⟩ (WL_EN1 hl vl vt vs) hs
theorem zEL_10 (v : CV) (x w : Int32) : zEL v x w 10 0 = v 10 0 := by
  rw [zEL]
  cases zL v x <;> rfl
theorem zEN_10 (v : CV) (l t s x : Int32) (n : Nat) : zEN v l t s x n 10 0 = v 10 0 := zEL_10 _ _ _
theorem zVo_10 (v : CV) (l t s : Int32) : zVo v l t s 10 0 = v 10 0 := by
  rw [zVo]
  cases zPass v l t s (mk v) with
  | true => exact zEN_10 _ _ _ _ _ _
  | false => rfl
/-- the row behind a bill of a text -/
def zA1 (v : CV) (a : Nat → Int32) (l t s : Int32) : Nat → Int32 := match zPass v l t s (mk v) with
  | true => zpx a (mk v) l t s (v 10 0) (zBR v l t s (mk v))
  | false => upd a 5 (v 11 0 + nI 1)
def zRa (ps : Nat → Int32) (q : Nat) : Nat → Nat → CV → (Nat → Int32) → (Nat → Int32)
  | 0, _, _, a => a
  | f + 1, i, v, a => if i + 2 < q then
      (if zSg ps q (i + 3) = nI 33 then zRa ps q f (i + 4) (zSe (zVo v (zSg ps q i - nI 48) (zSg ps q (i + 1) - nI 48) (zSt (zSg ps q (i + 2))))) (upd (zA1 v a (zSg ps q i - nI 48) (zSg ps q (i + 1) - nI 48) (zSt (zSg ps q (i + 2)))) 3 (v 10 0 + nI 1))
      else zRa ps q f (i + 3) (zVo v (zSg ps q i - nI 48) (zSg ps q (i + 1) - nI 48) (zSt (zSg ps q (i + 2)))) (zA1 v a (zSg ps q i - nI 48) (zSg ps q (i + 1) - nI 48) (zSt (zSg ps q (i + 2)))))
    else a
/-- where the bill number k starts -/
def zpo (g : Nat → Int32) : Nat → Nat
  | 0 => 0
  | k + 1 => zpn g (zpo g k)
theorem zpo_ge (g : Nat → Int32) : ∀ k, 3 * k ≤ zpo g k
  | 0 => Nat.le_refl 0
  | k + 1 => by
    have h1 := zpo_ge g k
    have h2 := zpn_ge g (zpo g k)
    show 3 * (k + 1) ≤ zpn g (zpo g k)
    omega
theorem zFl_ok {T : Nat → Int32} {q : Nat} : ∀ (f i r : Nat) (B : Nat → Int32), i = zpo (zSg T q) r → (∀ j, j < r → zgd (zSg T q) (zpo (zSg T q) j) = 3 ∧ B j = zBv (zSg T q) (zpo (zSg T q) j)) → i < 1000 → (zFl (zSg T q) q f i r B).1 = -(nI 6) → q ≤ 60 → (q ≤ zpo (zSg T q) (zFl (zSg T q) q f i r B).2.2.1 ∧ ∀ j, j < (zFl (zSg T q) q f i r B).2.2.1 → zgd (zSg T q) (zpo (zSg T q) j) = 3 ∧ (zFl (zSg T q) q f i r B).2.2.2 j = zBv (zSg T q) (zpo (zSg T q) j))
  | 0, i, r, B, hi, hB, hi2, hz, _ => absurd hz (by rw [zFl]; exact nI_nn (by omega))
  | f + 1, i, r, B, hi, hB, hi2, hz, hq => by
    rw [zFl] at hz ⊢
    by_cases hg : zgd (zSg T q) i = 3
    · rw [if_pos hg] at hz ⊢
      have hB2 : ∀ j, j < r + 1 → zgd (zSg T q) (zpo (zSg T q) j) = 3 ∧ upd B r (zBv (zSg T q) i) j = zBv (zSg T q) (zpo (zSg T q) j) := by
        intro j hj
        by_cases e : j = r
        · subst e
          rw [upd_at, ← hi]
          exact ⟨hg, rfl⟩
        · rw [upd_ne e]
          exact hB j (by omega)
      have hi3 : zpn (zSg T q) i = zpo (zSg T q) (r + 1) := by rw [hi]; rfl
      have hp := zpn_ge (zSg T q) i
      have q1 : i < q := zSg_in (by decide) (by decide) (zgd_3 hg).1
      by_cases hq2 : zpn (zSg T q) i < q
      · rw [if_pos hq2] at hz ⊢
        exact zFl_ok f _ _ _ hi3 hB2 (by omega) hz hq
      · rw [if_neg hq2] at hz ⊢
        exact ⟨by show q ≤ zpo (zSg T q) (r + 1); rw [← hi3]; omega, hB2⟩
    · rw [if_neg hg] at hz
      have h3 : zgd (zSg T q) i ≤ 3 := by
        rw [zgd]
        repeat (first | omega | split)
      exact absurd hz (nI_nn (by omega))
/-- what a bill of a text says -/
theorem zBv_say {g : Nat → Int32} {i : Nat} (h : zgd g i = 3) : ∃ L T S, 1 ≤ L ∧ L < 10 ∧ T < 6 ∧ S < 3 ∧ g i - nI 48 = nI L ∧ g (i + 1) - nI 48 = nI T ∧ zSt (g (i + 2)) = nI S ∧ zBv g i = nI (100 * L + 10 * T + S + 1000 * bN (decide (g (i + 3) = nI 33))) := by
  obtain ⟨h1, h2, h3⟩ := zgd_3 h
  obtain ⟨L, l1, l2, l3⟩ := zbt_ex (by decide) h1
  obtain ⟨T, t1, t2, t3⟩ := zbt_ex (by decide) h2
  have hS : ∃ S, S < 3 ∧ zSt (g (i + 2)) = nI S := by
    simp only [Bool.or_eq_true, decide_eq_true_eq] at h3
    rcases h3 with h | h | h
    · exact ⟨1, by decide, by rw [h]; decide⟩
    · exact ⟨2, by decide, by rw [h]; decide⟩
    · exact ⟨0, by decide, by rw [h]; decide⟩
  obtain ⟨S, s1, s2⟩ := hS
  have e1 : g i - nI 48 = nI (L - 48) := by rw [l3, pk_sub (by omega)]
  have e2 : g (i + 1) - nI 48 = nI (T - 48) := by rw [t3, pk_sub (by omega)]
  refine ⟨L - 48, T - 48, S, by omega, by omega, by omega, s1, e1, e2, s2, ?_⟩
  rw [zBv, e1, e2, s2, pk_mul, pk_mul, nI_add, nI_add]
  cases decide (g (i + 3) = nI 33) with
  | true => exact nI_add _ _
  | false => exact nI_add _ _
theorem zgd_q {T : Nat → Int32} {q i : Nat} (h : zgd (zSg T q) i = 3) : i + 2 < q := by
  obtain ⟨-, -, h3⟩ := zgd_3 h
  rcases Nat.lt_or_ge (i + 2) q with z | z
  · exact z
  · rw [zSg, if_neg (by omega)] at h3
    exact absurd h3 (by decide)
