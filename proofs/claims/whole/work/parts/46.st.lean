/-! both sides: the relation, and what each change does to it -/
/-- a code in order: its laws, its session at most S -/
def GS (S : Nat) (v : CV) : Prop := ∃ n s, WM v n ∧ WL v n ∧ v 10 0 = nI s ∧ s ≤ S
theorem GS.up {S S2 : Nat} {v : CV} (h : GS S v) (hS : S ≤ S2) : GS S2 v := by
  obtain ⟨n, s, h1, h2, h3, h4⟩ := h
  exact ⟨n, s, h1, h2, h3, Nat.le_trans h4 hS⟩
theorem zRd_good {T : Nat → Int32} {q R : Nat} (hR : q ≤ zpo (zSg T q) R) (hB : ∀ j, j < R → zgd (zSg T q) (zpo (zSg T q) j) = 3) : ∀ (d j f : Nat) (v : CV) (c : Nat) (a : Nat → Int32) (n s : Nat), j + d = R → WM v n → WL v n → RM v a → v 10 0 = nI s → s + d < 2 ^ 31 → q ≤ zpo (zSg T q) j + 3 * f → ∃ n2 s2, WM (zRd T q f (zpo (zSg T q) j) v c).1 n2 ∧ WL (zRd T q f (zpo (zSg T q) j) v c).1 n2 ∧ RM (zRd T q f (zpo (zSg T q) j) v c).1 (zRa T q f (zpo (zSg T q) j) v a) ∧ (zRd T q f (zpo (zSg T q) j) v c).1 10 0 = nI s2 ∧ s2 ≤ s + d
  | 0, j, f, v, c, a, n, s, hj, hm, hl, hr, hs, hs2, hf => by
    have e : j = R := by omega
    subst e
    cases f with
    | zero => exact ⟨n, s, hm, hl, hr, hs, Nat.le_refl _⟩
    | succ f =>
      rw [zRd, zRa, if_neg (by omega), if_neg (by omega)]
      exact ⟨n, s, hm, hl, hr, hs, Nat.le_refl _⟩
  | d + 1, j, f, v, c, a, n, s, hj, hm, hl, hr, hs, hs2, hf => by
    have hg := hB j (by omega)
    have hq2 := zgd_q hg
    obtain ⟨L, U, W, l1, l2, t2, w2, eL, eT, eW, -⟩ := zBv_say hg
    have hp : zpo (zSg T q) (j + 1) = zpo (zSg T q) j + 3 + bN (decide (zSg T q (zpo (zSg T q) j + 3) = nI 33)) := rfl
    cases f with
    | zero => omega
    | succ f =>
    rw [zRd, zRa, if_pos hq2, if_pos hq2, eL, eT, eW]
    have hmk := mk_eq hm
    have hn6 : ¬ v 10 0 = -(nI 6) := by rw [hs]; exact nI_nn (by omega)
    have h1 : ∃ n1, WM (zVo v (nI L) (nI U) (nI W)) n1 ∧ WL (zVo v (nI L) (nI U) (nI W)) n1 ∧ RM (zVo v (nI L) (nI U) (nI W)) (zA1 v a (nI L) (nI U) (nI W)) := by
      rw [zVo, zA1, hmk]
      cases hP : zPass v (nI L) (nI U) (nI W) n with
      | true =>
        have hn := zPass_n hm hP
        exact ⟨n + 1, WM_EN hn, WL_EN hn hl hn6 ⟨L, l1, l2, rfl⟩ ⟨U, t2, rfl⟩ ⟨W, w2, rfl⟩, RM_px hr hm hn _ _ _ (zBR_nm _ _ _ _ _)⟩
      | false => exact ⟨n, hm, hl, RM_fail hr⟩
    obtain ⟨n1, m1, m2, m3⟩ := h1
    have hs1 : zVo v (nI L) (nI U) (nI W) 10 0 = nI s := (zVo_10 _ _ _ _).trans hs
    cases h9 : decide (zSg T q (zpo (zSg T q) j + 3) = nI 33) with
    | true =>
      rw [h9] at hp
      rw [if_pos (of_decide_eq_true h9), if_pos (of_decide_eq_true h9), show zpo (zSg T q) j + 4 = zpo (zSg T q) (j + 1) by rw [hp]; rfl]
      have m4 := RM_sess (x := zVo v (nI L) (nI U) (nI W) 10 0 + nI 1) m3
      rw [hs1, ← hs] at m4
      obtain ⟨n2, s2, k1, k2, k3, k4, k5⟩ := zRd_good hR hB d (j + 1) f (zSe (zVo v (nI L) (nI U) (nI W))) (zVc v (nI L) (nI U) (nI W) c) _ n1 (s + 1) (by omega) m1 m2 (RM_congr m4 (fun f => by unfold zSe; rw [hs1, ← hs])) (by show _ + nI 1 = _; rw [hs1, nI_add]) (by omega) (by rw [hp]; simp only [bN]; omega)
      exact ⟨n2, s2, k1, k2, k3, k4, by omega⟩
    | false =>
      rw [h9] at hp
      rw [if_neg (of_decide_eq_false h9), if_neg (of_decide_eq_false h9), show zpo (zSg T q) j + 3 = zpo (zSg T q) (j + 1) by rw [hp]; rfl]
      obtain ⟨n2, s2, k1, k2, k3, k4, k5⟩ := zRd_good hR hB d (j + 1) f (zVo v (nI L) (nI U) (nI W)) (zVc v (nI L) (nI U) (nI W) c) _ n1 s (by omega) m1 m2 m3 hs1 (by omega) (by rw [hp]; simp only [bN]; omega)
      exact ⟨n2, s2, k1, k2, k3, k4, by omega⟩
/-- the state of the class -/
abbrev ZX : Type := CV × (Nat → CV) × Nat × Nat × (Nat → CV) × (Nat → Int32) × (Nat → Int32) × Nat
abbrev ZX.v (x : ZX) : CV := x.1
abbrev ZX.hv (x : ZX) : Nat → CV := x.2.1
abbrev ZX.o (x : ZX) : Nat := x.2.2.1
abbrev ZX.k (x : ZX) : Nat := x.2.2.2.1
abbrev ZX.sv (x : ZX) : Nat → CV := x.2.2.2.2.1
abbrev ZX.fl (x : ZX) : Nat → Int32 := x.2.2.2.2.2.1
abbrev ZX.ps (x : ZX) : Nat → Int32 := x.2.2.2.2.2.2.1
abbrev ZX.q (x : ZX) : Nat := x.2.2.2.2.2.2.2
def ZX.h (x : ZX) : List ZC := hX x.v x.hv (nI x.o) (nI x.k) x.sv x.fl x.ps (nI x.q)
def ZRh (S : Nat) (x : ZX) (u : CV) : Prop := x.o < 6 ∧ x.k ≤ 6 ∧ u 2 0 = nI x.k ∧ ∀ j, j < x.k → GS S (x.hv ((x.o + j) % 6)) ∧ RM (x.hv ((x.o + j) % 6)) (fun i => u 1 (596 * j + i))
def ZRs (S : Nat) (x : ZX) (u : CV) : Prop := ∀ j, j < 2 → (x.fl j = nI 0 ∧ u 4 j = nI 0) ∨ (x.fl j = nI 1 ∧ u 4 j = nI 1 ∧ GS S (x.sv j) ∧ RM (x.sv j) (fun i => u 3 (596 * j + i)))
def ZRt (x : ZX) (u : CV) : Prop := WP x.ps (nI x.q) x.q ∧ u 6 0 = nI x.q ∧ ∀ j, j < x.q → u 5 j = x.ps j
/-- what holds between both sides; no session is above S -/
def ZRl (S : Nat) (x : ZX) (u : CV) : Prop := (GS S x.v ∧ RM x.v (u 0)) ∧ ZRh S x u ∧ ZRs S x u ∧ ZRt x u
theorem ZRh.up {S S2 : Nat} {x : ZX} {u : CV} (h : ZRh S x u) (hS : S ≤ S2) : ZRh S2 x u := ⟨h.1, h.2.1, h.2.2.1, fun j hj => ⟨(h.2.2.2 j hj).1.up hS, (h.2.2.2 j hj).2⟩⟩
theorem ZRs.up {S S2 : Nat} {x : ZX} {u : CV} (h : ZRs S x u) (hS : S ≤ S2) : ZRs S2 x u := fun j hj => (h j hj).imp id (fun q => ⟨q.1, q.2.1, q.2.2.1.up hS, q.2.2.2⟩)
theorem ZRl.up {S S2 : Nat} {x : ZX} {u : CV} (h : ZRl S x u) (hS : S ≤ S2) : ZRl S2 x u := ⟨⟨h.1.1.up hS, h.1.2⟩, h.2.1.up hS, h.2.2.1.up hS, h.2.2.2⟩
theorem hup_at (hv : Nat → CV) (p : Nat) (w : CV) : hup hv p w p = w := by
  unfold hup
  rw [Nat.beq_refl]
theorem hup_ne {hv : Nat → CV} {p j : Nat} {w : CV} (h : ¬ j = p) : hup hv p w j = hv j := by
  unfold hup
  rw [show Nat.beq j p = false from Bool.eq_false_iff.mpr (fun q => h (Nat.eq_of_beq_eq_true q))]
/-- the class's state behind a change that is remembered -/
def ZX.rem (x : ZX) (w : CV) : ZX := (w, hup x.hv ((x.o + x.k) % 6) x.v, (if x.k < 6 then x.o else (x.o + 1) % 6), (if x.k < 6 then x.k + 1 else 6), x.sv, x.fl, x.ps, x.q)
theorem ZRh_rem {S : Nat} {x : ZX} {u : CV} (w : CV) (g : Nat → Int32) (h : ZRh S x u) (hg : GS S x.v) (hr : RM x.v (u 0)) : ZRh S (x.rem w) (vup (zcc u x.k) 0 g) := by
  obtain ⟨ho, hk, h2, h3⟩ := h
  by_cases c : x.k < 6
  · refine ⟨?_, ?_, ?_, fun j hj => ?_⟩
    · show (if x.k < 6 then x.o else (x.o + 1) % 6) < 6
      rw [if_pos c]; exact ho
    · show (if x.k < 6 then x.k + 1 else 6) ≤ 6
      rw [if_pos c]; omega
    · show nI (zhk x.k + 1) = nI (if x.k < 6 then x.k + 1 else 6)
      rw [if_pos c, zhk, if_pos c]
    · have hj2 : j < (if x.k < 6 then x.k + 1 else 6) := hj
      rw [if_pos c] at hj2
      show GS S (hup x.hv ((x.o + x.k) % 6) x.v (((if x.k < 6 then x.o else (x.o + 1) % 6) + j) % 6)) ∧ RM (hup x.hv ((x.o + x.k) % 6) x.v (((if x.k < 6 then x.o else (x.o + 1) % 6) + j) % 6)) (fun i => zhs u x.k (596 * j + i))
      rw [if_pos c]
      unfold zhs zhk
      rw [if_pos c, if_pos c]
      by_cases e : j = x.k
      · subst e
        rw [hup_at]
        exact ⟨hg, RM_ext hr (fun p hp => zcp_at hp)⟩
      · rw [hup_ne (by omega)]
        refine ⟨(h3 j (by omega)).1, RM_ext (h3 j (by omega)).2 (fun p hp => ?_)⟩
        show zcp _ _ _ _ _ = _
        rw [zcp, if_neg (by omega)]
  · have e6 : x.k = 6 := by omega
    refine ⟨?_, ?_, ?_, fun j hj => ?_⟩
    · show (if x.k < 6 then x.o else (x.o + 1) % 6) < 6
      rw [if_neg c]; omega
    · show (if x.k < 6 then x.k + 1 else 6) ≤ 6
      rw [if_neg c]; omega
    · show nI (zhk x.k + 1) = nI (if x.k < 6 then x.k + 1 else 6)
      rw [if_neg c, zhk, if_neg c]
    · have hj2 : j < (if x.k < 6 then x.k + 1 else 6) := hj
      rw [if_neg c] at hj2
      show GS S (hup x.hv ((x.o + x.k) % 6) x.v (((if x.k < 6 then x.o else (x.o + 1) % 6) + j) % 6)) ∧ RM (hup x.hv ((x.o + x.k) % 6) x.v (((if x.k < 6 then x.o else (x.o + 1) % 6) + j) % 6)) (fun i => zhs u x.k (596 * j + i))
      rw [if_neg c]
      unfold zhs zhk
      rw [if_neg c, if_neg c, e6]
      by_cases e : j = 5
      · subst e
        rw [show ((x.o + 1) % 6 + 5) % 6 = (x.o + 6) % 6 by omega, hup_at]
        exact ⟨hg, RM_ext hr (fun p hp => zcp_at hp)⟩
      · rw [hup_ne (by omega), show ((x.o + 1) % 6 + j) % 6 = (x.o + (j + 1)) % 6 by omega]
        refine ⟨(h3 (j + 1) (by omega)).1, RM_ext (h3 (j + 1) (by omega)).2 (fun p hp => ?_)⟩
        show zcp _ _ _ _ _ = _
        rw [zcp, if_neg (by omega), zsh, if_pos (by omega)]
        congr 1
        omega
theorem ZRl_rem {S : Nat} {x : ZX} {u : CV} {w : CV} {g : Nat → Int32} (h : ZRl S x u) (h1 : GS S w) (h2 : RM w g) : ZRl S (x.rem w) (vup (zcc u x.k) 0 g) := ⟨⟨h1, h2⟩, ZRh_rem w g h.2.1 h.1.1 h.1.2, h.2.2.1, h.2.2.2⟩
