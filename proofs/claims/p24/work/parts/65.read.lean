/-! pads made of bills, and what reading them brings -/
abbrev Bl : Type := Nat × Nat × Nat × Bool
def zcs (c : Nat) : Int32 := match c with
  | 0 => nI 102
  | 1 => nI 97
  | _ => nI 100
def okB (r : Bl) : Prop := 1 ≤ r.1 ∧ r.1 < 10 ∧ r.2.1 < 6 ∧ r.2.2.1 < 3
/-- the pad from p to q holds these bills -/
def PB (T : Nat → Int32) : Nat → List Bl → Nat → Prop
  | p, [], q => p = q
  | p, r :: t, q => okB r ∧ T p = nI (48 + r.1) ∧ T (p + 1) = nI (48 + r.2.1) ∧ T (p + 2) = zcs r.2.2.1 ∧ (r.2.2.2 = true → T (p + 3) = nI 33) ∧ PB T (p + 3 + bN r.2.2.2) t q
theorem PB_le {T : Nat → Int32} : ∀ {bl : List Bl} {p q : Nat}, PB T p bl q → p + 3 * bl.length ≤ q
  | [], p, q, h => by
    have h : p = q := h
    subst h
    exact Nat.le_refl _
  | r :: t, p, q, h => by
    have h1 := PB_le h.2.2.2.2.2
    rw [List.length_cons]
    omega
theorem PB_ok {T : Nat → Int32} : ∀ {bl : List Bl} {p q : Nat}, PB T p bl q → ∀ r ∈ bl, okB r
  | [], p, q, h => fun r hr => by simp at hr
  | r :: t, p, q, h => List.forall_mem_cons.mpr ⟨h.1, PB_ok h.2.2.2.2.2⟩
theorem bN_le (b : Bool) : bN b ≤ 1 := by cases b <;> decide
theorem PB_app {T T' : Nat → Int32} {q2 : Nat} {r : Bl} : ∀ {bl : List Bl} {p q : Nat}, PB T p bl q → (∀ j, j < q → T' j = T j) → PB T' q [r] q2 → PB T' p (bl ++ [r]) q2
  | [], p, q, h, _, h2 => by
    have h : p = q := h
    subst h
    exact h2
  | a :: t, p, q, h, hj, h2 => by
    obtain ⟨h0, h1, h3, h4, h5, h6⟩ := h
    have hle := PB_le h6
    refine ⟨h0, (hj p (by omega)).trans h1, (hj _ (by omega)).trans h3, (hj _ (by omega)).trans h4, fun e => (hj _ ?_).trans (h5 e), PB_app h6 hj h2⟩
    rw [e] at hle
    have hb : bN true = 1 := rfl
    omega
theorem d48 (l : Nat) : nI (48 + l) - nI 48 = nI l := by
  rw [pk_sub (by omega)]
  congr 1
  omega
theorem zcs_st {c : Nat} (h : c < 3) : zSt (zcs c) = nI c := by
  rcases (show c = 0 ∨ c = 1 ∨ c = 2 by omega) with rfl | rfl | rfl <;> decide
theorem zcs_33 (c : Nat) : ¬ zcs c = nI 33 := by
  unfold zcs
  split <;> decide
theorem dig_33 {l : Nat} (h : l < 10) : ¬ nI (48 + l) = nI 33 := by
  rw [nI_eq (by omega) (by omega)]
  omega
section PBS
variable {T : Nat → Int32} {q : Nat}
theorem zSc_ok {i p : Nat} (hi : i < q) (h1 : (zbh T q i p && decide (zSg T q i = nI 33)) = false) (h2 : zFt T q i p = true) : zSc T q (q - i) i p = zSc T q (q - (i + 1)) (i + 1) (if p = 2 then 0 else p + 1) := by
  rw [show q - i = (q - (i + 1)) + 1 by omega, zSc, h1, h2]
theorem zSc_skip {i p : Nat} (hi : i < q) (h1 : (zbh T q i p && decide (zSg T q i = nI 33)) = true) : zSc T q (q - i) i p = zSc T q (q - (i + 1)) (i + 1) p := by
  rw [show q - i = (q - (i + 1)) + 1 by omega, zSc, h1]
theorem zbh_p {i p : Nat} (hp : ¬ p = 0) : (zbh T q i p && decide (zSg T q i = nI 33)) = false := by
  rw [zbh, decide_eq_false hp]
  rfl
theorem PB_sg {r : Bl} {t : List Bl} {p : Nat} (h : PB T p (r :: t) q) : zSg T q p = nI (48 + r.1) ∧ zSg T q (p + 1) = nI (48 + r.2.1) ∧ zSg T q (p + 2) = zcs r.2.2.1 ∧ (r.2.2.2 = true → zSg T q (p + 3) = nI 33) ∧ (r.2.2.2 = false → ¬ zSg T q (p + 3) = nI 33) ∧ p + 3 ≤ q ∧ (r.2.2.2 = true → p + 4 ≤ q) := by
  obtain ⟨a, b1, b2, b3, b4, b5⟩ := h
  have hle := PB_le b5
  refine ⟨by rw [zSg, if_pos (by omega), b1], by rw [zSg, if_pos (by omega), b2], by rw [zSg, if_pos (by omega), b3], fun e => ?_, fun e => ?_, by omega, fun e => ?_⟩
  · rw [e] at hle
    have hb : bN true = 1 := rfl
    rw [zSg, if_pos (by omega), b4 e]
  · rw [e] at b5
    cases t with
    | nil =>
      have h : p + 3 = q := b5
      rw [zSg, if_neg (by omega)]
      decide
    | cons r2 t2 =>
      have h1 := PB_le b5
      rw [List.length_cons] at h1
      have hb : bN false = 0 := rfl
      have h2 : T (p + 3) = nI (48 + r2.1) := b5.2.1
      rw [zSg, if_pos (by omega), h2]
      exact dig_33 b5.1.2.1
  · rw [e] at hle
    have hb : bN true = 1 := rfl
    omega
theorem PB_sc : ∀ (bl : List Bl) (p : Nat), PB T p bl q → 0 < q → zSc T q (q - p) p 0 = -(nI 6)
  | [], p, h, h0 => by
    have h : p = q := h
    subst h
    rw [Nat.sub_self, zSc, if_neg (by omega)]
  | r :: t, p, h, h0 => by
    obtain ⟨g0, g1, g2, g3, g4, hle, hle4⟩ := PB_sg h
    obtain ⟨⟨a1, a2, a3, a4⟩, b1, b2, b3, b4, b5⟩ := h
    have f0 : zFt T q p 0 = true := by
      show zbt (nI 1) (nI 10) (zSg T q p - nI 48) = true
      rw [g0, d48]
      exact zbt_n a1 a2 (by decide)
    have f1 : zFt T q (p + 1) 1 = true := by
      show zbt (nI 0) (nI 6) (zSg T q (p + 1) - nI 48) = true
      rw [g1, d48]
      exact zbt_n (Nat.zero_le _) a3 (by decide)
    have f2 : zFt T q (p + 2) 2 = true := by
      show zbt (nI 0) (nI 3) (zSt (zSg T q (p + 2))) = true
      rw [g2, zcs_st a4]
      exact zbt_n (Nat.zero_le _) a4 (by decide)
    have n0 : (zbh T q p 0 && decide (zSg T q p = nI 33)) = false := by rw [g0, decide_eq_false (dig_33 a2), Bool.and_false]
    rw [zSc_ok (by omega) n0 f0, if_neg (by decide), zSc_ok (show p + 1 < q by omega) (zbh_p (by decide)) f1, if_neg (by decide), zSc_ok (show p + 1 + 1 < q by omega) (zbh_p (by decide)) f2, if_pos rfl]
    cases e : r.2.2.2 with
    | true =>
      rw [e] at b5
      have g3 := g3 e
      have g2' : zSg T q (p + 1 + 1 + 1 - 1) = zcs r.2.2.1 := g2
      have g3' : zSg T q (p + 1 + 1 + 1) = nI 33 := g3
      have hz : (zbh T q (p + 1 + 1 + 1) 0 && decide (zSg T q (p + 1 + 1 + 1) = nI 33)) = true := by
        rw [zbh, g2', g3', decide_eq_true (zcs_33 _), decide_eq_true (show 0 < p + 1 + 1 + 1 by omega)]
        rfl
      have hq := hle4 e
      rw [zSc_skip (show p + 1 + 1 + 1 < q by omega) hz]
      exact PB_sc t (p + 4) b5 h0
    | false =>
      rw [e] at b5
      exact PB_sc t (p + 3) b5 h0
/-- reading bills -/
def rdl : List Bl → CV → Nat → CV × Nat
  | [], v, c => (v, c)
  | r :: t, v, c => rdl t (match r.2.2.2 with
    | true => zSe (zVo v (nI r.1) (nI r.2.1) (nI r.2.2.1))
    | false => zVo v (nI r.1) (nI r.2.1) (nI r.2.2.1)) (zVc v (nI r.1) (nI r.2.1) (nI r.2.2.1) c)
theorem PB_rd : ∀ (bl : List Bl) (p f : Nat) (v : CV) (c : Nat), PB T p bl q → bl.length ≤ f → zRd T q f p v c = rdl bl v c
  | [], p, f, v, c, h, hf => by
    have h : p = q := h
    subst h
    cases f with
    | zero => rfl
    | succ f =>
      rw [zRd, if_neg (by omega)]
      rfl
  | r :: t, p, f, v, c, h, hf => by
    rw [List.length_cons] at hf
    cases f with
    | zero => exact absurd hf (by omega)
    | succ f =>
      obtain ⟨g0, g1, g2, g3, g4, hle, hle4⟩ := PB_sg h
      obtain ⟨⟨a1, a2, a3, a4⟩, b1, b2, b3, b4, b5⟩ := h
      rw [zRd, if_pos (show p + 2 < q by omega), g0, g1, g2, d48, d48, zcs_st a4, rdl]
      cases e : r.2.2.2 with
      | true =>
        rw [e] at b5
        rw [if_pos (g3 e)]
        exact PB_rd t (p + 4) f _ _ b5 (by omega)
      | false =>
        rw [e] at b5
        rw [if_neg (g4 e)]
        exact PB_rd t (p + 3) f _ _ b5 (by omega)
end PBS
/-- the mirror of a bill -/
def mB (r : Bl) : Bl := (r.1, 5 - r.2.1, (r.2.2.1 + 1) % 3, r.2.2.2)
theorem vo_step {S n s : Nat} {v w : CV} (h : GW S n s v) (hS : s < 2 ^ 31) (hr : MR n v w) {l b c : Nat} (l1 : 1 ≤ l) (l2 : l < 10) (hb : b < 6) (hc : c < 3) (k : Nat) : ∃ d, d ≤ 1 ∧ GW S (n + d) s (zVo v (nI l) (nI b) (nI c)) ∧ MR (n + d) (zVo v (nI l) (nI b) (nI c)) (zVo w (nI l) (nI (5 - b)) (nI ((c + 1) % 3))) ∧ zVc v (nI l) (nI b) (nI c) k = k + d ∧ zVc w (nI l) (nI (5 - b)) (nI ((c + 1) % 3)) k = k + d ∧ zVo v (nI l) (nI b) (nI c) 11 0 = v 11 0 + nI (1 - d) := by
  obtain ⟨hm, hl, hs, hsS, hw⟩ := id h
  have ep := mr_Pass hr hm hl hb (nI l) (nI c)
  have eb := mr_BR hr hm hl hb (nI l) (nI c)
  rw [nx_at hc] at ep eb
  rw [zVo, zVo, zVc, zVc, mk_eq hm, mk_eq (mr_WM hr hm), ep, eb]
  cases e : zPass v (nI l) (nI b) (nI c) n with
  | true =>
    have hn := zPass_n hm e
    have ez : zRA v (nI l) (nI b) (nI c) (zBR v (nI l) (nI b) (nI c) n) n = nI 0 := by
      simp only [zPass, Bool.and_eq_true, decide_eq_true_eq] at e
      exact e.2
    have hz := zBR_nm v (nI l) (nI b) (nI c) n
    obtain ⟨x1, x2⟩ := RA0 hm hz ez
    have hE := mr_EN hr hn hz hb (nI l) (nI c)
    rw [nx_at hc] at hE
    refine ⟨1, Nat.le_refl 1, GW_EN h hn hS ⟨l, l1, l2, rfl⟩ ⟨b, hb, rfl⟩ ⟨c, hc, rfl⟩ x1 x2, hE, rfl, rfl, ?_⟩
    show zEN v (nI l) (nI b) (nI c) (zBR v (nI l) (nI b) (nI c) n) n 11 0 = v 11 0 + nI 0
    rw [(EN_c hn hz).2.2.1]
    exact (Int32.add_zero _).symm
  | false => exact ⟨0, Nat.zero_le 1, GW_fail _ h, mr_fail hr, rfl, rfl, upd_at⟩
theorem rd_good : ∀ (bl : List Bl) {S n s : Nat} {v w : CV} (k : Nat), (∀ r ∈ bl, okB r) → GW S n s v → s + bl.length < 2 ^ 31 → MR n v w → ∃ d s2, d ≤ bl.length ∧ GW (S + bl.length) (n + d) s2 (rdl bl v k).1 ∧ MR (n + d) (rdl bl v k).1 (rdl (bl.map mB) w k).1 ∧ (rdl bl v k).2 = k + d ∧ (rdl (bl.map mB) w k).2 = k + d ∧ (rdl bl v k).1 11 0 = v 11 0 + nI (bl.length - d)
  | [], S, n, s, v, w, k, _, h, _, hr => ⟨0, s, Nat.le_refl 0, h, hr, rfl, rfl, (Int32.add_zero _).symm⟩
  | r :: t, S, n, s, v, w, k, ho, h, hS, hr => by
    obtain ⟨⟨a1, a2, a3, a4⟩, ho2⟩ := List.forall_mem_cons.mp ho
    rw [List.length_cons] at hS
    obtain ⟨d, d1, d2, d3, d4, d5, d6⟩ := vo_step h (by omega) hr a1 a2 a3 a4 k
    rw [List.map_cons, rdl, rdl, List.length_cons]
    show ∃ d s2, d ≤ t.length + 1 ∧ GW (S + (t.length + 1)) (n + d) s2 (rdl t (match r.2.2.2 with
      | true => zSe (zVo v (nI r.1) (nI r.2.1) (nI r.2.2.1))
      | false => zVo v (nI r.1) (nI r.2.1) (nI r.2.2.1)) (zVc v (nI r.1) (nI r.2.1) (nI r.2.2.1) k)).1 ∧ MR (n + d) (rdl t (match r.2.2.2 with
      | true => zSe (zVo v (nI r.1) (nI r.2.1) (nI r.2.2.1))
      | false => zVo v (nI r.1) (nI r.2.1) (nI r.2.2.1)) (zVc v (nI r.1) (nI r.2.1) (nI r.2.2.1) k)).1 (rdl (t.map mB) (match r.2.2.2 with
      | true => zSe (zVo w (nI r.1) (nI (5 - r.2.1)) (nI ((r.2.2.1 + 1) % 3)))
      | false => zVo w (nI r.1) (nI (5 - r.2.1)) (nI ((r.2.2.1 + 1) % 3))) (zVc w (nI r.1) (nI (5 - r.2.1)) (nI ((r.2.2.1 + 1) % 3)) k)).1 ∧ (rdl t (match r.2.2.2 with
      | true => zSe (zVo v (nI r.1) (nI r.2.1) (nI r.2.2.1))
      | false => zVo v (nI r.1) (nI r.2.1) (nI r.2.2.1)) (zVc v (nI r.1) (nI r.2.1) (nI r.2.2.1) k)).2 = k + d ∧ (rdl (t.map mB) (match r.2.2.2 with
      | true => zSe (zVo w (nI r.1) (nI (5 - r.2.1)) (nI ((r.2.2.1 + 1) % 3)))
      | false => zVo w (nI r.1) (nI (5 - r.2.1)) (nI ((r.2.2.1 + 1) % 3))) (zVc w (nI r.1) (nI (5 - r.2.1)) (nI ((r.2.2.1 + 1) % 3)) k)).2 = k + d ∧ (rdl t (match r.2.2.2 with
      | true => zSe (zVo v (nI r.1) (nI r.2.1) (nI r.2.2.1))
      | false => zVo v (nI r.1) (nI r.2.1) (nI r.2.2.1)) (zVc v (nI r.1) (nI r.2.1) (nI r.2.2.1) k)).1 11 0 = v 11 0 + nI (t.length + 1 - d)
    rw [d4, d5]
    have fin : ∀ (v1 w1 : CV) (s1 : Nat), GW (S + 1) (n + d) s1 v1 → s1 + t.length < 2 ^ 31 → MR (n + d) v1 w1 → v1 11 0 = v 11 0 + nI (1 - d) → ∃ d2 s2, d2 ≤ t.length + 1 ∧ GW (S + (t.length + 1)) (n + d2) s2 (rdl t v1 (k + d)).1 ∧ MR (n + d2) (rdl t v1 (k + d)).1 (rdl (t.map mB) w1 (k + d)).1 ∧ (rdl t v1 (k + d)).2 = k + d2 ∧ (rdl (t.map mB) w1 (k + d)).2 = k + d2 ∧ (rdl t v1 (k + d)).1 11 0 = v 11 0 + nI (t.length + 1 - d2) := by
      intro v1 w1 s1 hG hs hM h11
      obtain ⟨e, s2, e1, e2, e3, e4, e5, e6⟩ := rd_good t (k + d) ho2 hG hs hM
      rw [Nat.add_assoc] at e3
      rw [show S + 1 + t.length = S + (t.length + 1) by omega, Nat.add_assoc n d e] at e2
      refine ⟨d + e, s2, by omega, e2, e3, by rw [e4]; omega, by rw [e5]; omega, ?_⟩
      rw [e6, h11, Int32.add_assoc, nI_add]
      congr 2
      omega
    cases e : r.2.2.2 with
    | true => exact fin _ _ (s + 1) (GW_se d2) (by omega) (mr_se d3) d6
    | false => exact fin _ _ s (d2.up (by omega)) (by omega) d3 d6
