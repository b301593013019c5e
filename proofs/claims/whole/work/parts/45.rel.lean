/-! both sides: what holds between them -/
theorem zbt_sub {a b : Nat} (hb : b < 2 ^ 20) (x : Int32) (ha : a < 2 ^ 20 := by decide) : zbt (nI a) (nI b) (x - nI 48) = zbt (nI (a + 48)) (nI (b + 48)) x := by
  rw [Bool.eq_iff_iff]
  constructor
  · intro h
    obtain ⟨j, h1, h2, h3⟩ := zbt_ex (by omega) h (by omega)
    have e : x = nI (j + 48) := by rw [← nI_add, ← h3, Int32.sub_add_cancel]
    rw [e]
    exact zbt_t (nI_nlt (by omega) (by omega)) (nI_ge (by omega) (by omega))
  · intro h
    obtain ⟨j, h1, h2, rfl⟩ := zbt_ex (by omega) h (by omega)
    rw [pk_sub (by omega)]
    exact zbt_t (nI_nlt (by omega) (by omega)) (nI_ge (by omega) (by omega))
theorem zbt_st (y : Int32) : zbt (nI 0) (nI 3) (zSt y) = (decide (y = nI 97) || (decide (y = nI 100) || decide (y = nI 102))) := by
  rw [zSt]
  by_cases h1 : y = nI 102
  · subst h1; decide
  · rw [if_neg h1]
    by_cases h2 : y = nI 97
    · subst h2; decide
    · rw [if_neg h2]
      by_cases h3 : y = nI 100
      · subst h3; decide
      · rw [if_neg h3, decide_eq_false h1, decide_eq_false h2, decide_eq_false h3]
        decide
section ZSC
variable {T : Nat → Int32} {q : Nat}
theorem zSc_ok {i p : Nat} (hi : i < q) (h1 : (zbh T q i p && decide (zSg T q i = nI 33)) = false) (h2 : zFt T q i p = true) : zSc T q (q - i) i p = zSc T q (q - (i + 1)) (i + 1) (if p = 2 then 0 else p + 1) := by
  rw [show q - i = (q - (i + 1)) + 1 by omega, zSc, h1, h2]
theorem zSc_bad {i p : Nat} (hi : i < q) (h1 : (zbh T q i p && decide (zSg T q i = nI 33)) = false) (h2 : zFt T q i p = false) : zSc T q (q - i) i p = nI i := by
  rw [show q - i = (q - (i + 1)) + 1 by omega, zSc, h1, h2]
theorem zSc_skip {i p : Nat} (hi : i < q) (h1 : (zbh T q i p && decide (zSg T q i = nI 33)) = true) : zSc T q (q - i) i p = zSc T q (q - (i + 1)) (i + 1) p := by
  rw [show q - i = (q - (i + 1)) + 1 by omega, zSc, h1]
theorem zbh_p {i p : Nat} (hp : ¬ p = 0) : (zbh T q i p && decide (zSg T q i = nI 33)) = false := by
  rw [zbh, decide_eq_false hp]
  rfl
theorem zSg_out {i : Nat} (hi : ¬ i < q) : zSg T q i = nI 32 := by rw [zSg, if_neg hi]
theorem zFt0 (i : Nat) : zFt T q i 0 = zbt (nI 49) (nI 58) (zSg T q i) := zbt_sub (by decide) _
theorem zFt1 (i : Nat) : zFt T q i 1 = zbt (nI 48) (nI 54) (zSg T q i) := zbt_sub (by decide) _
theorem zFt2 (i : Nat) : zFt T q i 2 = (decide (zSg T q i = nI 97) || (decide (zSg T q i = nI 100) || decide (zSg T q i = nI 102))) := zbt_st _
def zHd (g : Nat → Int32) (i : Nat) : Prop := i = 0 ∨ g (i - 1) = nI 33 ∨ ¬ g i = nI 33
theorem zHd_f {i : Nat} (h : zHd (zSg T q) i) : (zbh T q i 0 && decide (zSg T q i = nI 33)) = false := by
  rcases h with rfl | h | h
  · rfl
  · have e : decide (¬ zSg T q (i - 1) = nI 33) = false := decide_eq_false (fun z => z h)
    rw [zbh, e]
    simp
  · rw [decide_eq_false h, Bool.and_false]
theorem zSc_Fl : ∀ (f i r : Nat) (B : Nat → Int32), q < i + 3 * f → (i < q ∨ (i = 0 ∧ q = 0)) → zHd (zSg T q) i → zSc T q (q - i) i 0 = (zFl (zSg T q) q f i r B).1
  | 0, i, r, B, hf, hi, _ => absurd hf (by omega)
  | f + 1, i, r, B, hf, hi, hd => by
    rw [zFl]
    cases h1 : zbt (nI 49) (nI 58) (zSg T q i) with
    | false =>
      have hg : zgd (zSg T q) i = 0 := by rw [zgd, h1]
      rw [hg, if_neg (by decide)]
      rcases hi with hi | ⟨rfl, rfl⟩
      · exact zSc_bad hi (zHd_f hd) ((zFt0 i).trans h1)
      · rfl
    | true =>
      have q1 : i < q := zSg_in (by decide) (by decide) h1
      rw [zSc_ok q1 (zHd_f hd) ((zFt0 i).trans h1), if_neg (by decide)]
      cases h2 : zbt (nI 48) (nI 54) (zSg T q (i + 1)) with
      | false =>
        have hg : zgd (zSg T q) i = 1 := by rw [zgd, h1, h2]
        rw [hg, if_neg (by decide)]
        rcases Nat.lt_or_ge (i + 1) q with z | z
        · exact zSc_bad z (zbh_p (by decide)) ((zFt1 _).trans h2)
        · rw [show q - (i + 1) = 0 by omega, zSc, if_pos (Or.inr (by decide)), show i + 1 = q by omega]
      | true =>
        have q2 : i + 1 < q := zSg_in (by decide) (by decide) h2
        rw [zSc_ok q2 (zbh_p (by decide)) ((zFt1 _).trans h2), if_neg (by decide)]
        cases h3 : decide (zSg T q (i + 2) = nI 97) || (decide (zSg T q (i + 2) = nI 100) || decide (zSg T q (i + 2) = nI 102)) with
        | false =>
          have hg : zgd (zSg T q) i = 2 := by rw [zgd, h1, h2, h3]
          rw [hg, if_neg (by decide)]
          rcases Nat.lt_or_ge (i + 2) q with z | z
          · exact zSc_bad z (zbh_p (by decide)) ((zFt2 _).trans h3)
          · rw [show q - (i + 1 + 1) = 0 by omega, zSc, if_pos (Or.inr (by decide)), show i + 2 = q by omega]
        | true =>
          have hg : zgd (zSg T q) i = 3 := by rw [zgd, h1, h2, h3]
          have q3 := zgd_q hg
          have hlet : ¬ zSg T q (i + 2) = nI 33 := by
            intro z
            rw [z] at h3
            exact absurd h3 (by decide)
          rw [hg, if_pos rfl, zSc_ok (show i + 1 + 1 < q by omega) (zbh_p (by decide)) ((zFt2 _).trans h3), if_pos rfl]
          cases h4 : decide (zSg T q (i + 3) = nI 33) with
          | true =>
            have hp : zpn (zSg T q) i = i + 4 := by rw [zpn, h4]; rfl
            have q4 : i + 3 < q := by
              rcases Nat.lt_or_ge (i + 3) q with z | z
              · exact z
              · rw [zSg_out (by omega)] at h4
                exact absurd h4 (by decide)
            rw [hp, zSc_skip (show i + 1 + 1 + 1 < q by omega) (by rw [zbh]; rw [show i + 1 + 1 + 1 - 1 = i + 2 by omega, show i + 1 + 1 + 1 = i + 3 by omega, h4, decide_eq_true hlet, decide_eq_true (show 0 < i + 3 by omega)]; rfl)]
            rw [show i + 1 + 1 + 1 + 1 = i + 4 by omega]
            by_cases z : i + 4 < q
            · rw [if_pos z]
              exact zSc_Fl f _ _ _ (by omega) (Or.inl z) (Or.inr (Or.inl (of_decide_eq_true h4)))
            · rw [if_neg z, show q - (i + 4) = 0 by omega, zSc, if_neg (by omega)]
          | false =>
            have hp : zpn (zSg T q) i = i + 3 := by rw [zpn, h4]; rfl
            rw [hp, show i + 1 + 1 + 1 = i + 3 by omega]
            by_cases z : i + 3 < q
            · rw [if_pos z]
              exact zSc_Fl f _ _ _ (by omega) (Or.inl z) (Or.inr (Or.inr (of_decide_eq_false h4)))
            · rw [if_neg z, show q - (i + 3) = 0 by omega, zSc, if_neg (by omega)]
end ZSC
theorem zSg_eq {T U : Nat → Int32} {q : Nat} (h : ∀ j, j < q → T j = U j) : zSg T q = zSg U q := by
  funext i
  rw [zSg, zSg]
  by_cases c : i < q
  · rw [if_pos c, if_pos c, h i c]
  · rw [if_neg c, if_neg c]
theorem zSc_congr {T U : Nat → Int32} {q : Nat} (h : zSg T q = zSg U q) : ∀ k i p, zSc T q k i p = zSc U q k i p
  | 0, i, p => rfl
  | k + 1, i, p => by
    have e1 : zbh T q i p = zbh U q i p := by unfold zbh; rw [h]
    have e2 : zFt T q i p = zFt U q i p := by unfold zFt; rw [h]
    rw [zSc, zSc, e1, e2, h]
    simp only [zSc_congr h k]
theorem zRd_congr {T U : Nat → Int32} {q : Nat} (h : zSg T q = zSg U q) : ∀ f i v c, zRd T q f i v c = zRd U q f i v c
  | 0, i, v, c => rfl
  | f + 1, i, v, c => by
    rw [zRd, zRd, h]
    simp only [zRd_congr h f]
