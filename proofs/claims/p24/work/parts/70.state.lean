/-! both islands: what holds between them -/
def GG (S : Nat) (v w : CV) : Prop := ∃ n s, GW S n s v ∧ MR n v w
theorem GG.up {S S2 : Nat} {v w : CV} (h : GG S v w) (hS : S ≤ S2) : GG S2 v w := by
  obtain ⟨n, s, h1, h2⟩ := h
  exact ⟨n, s, h1.up hS, h2⟩
def RR (S : Nat) (x y : ZX) : Prop := (x.o = y.o ∧ x.k = y.k ∧ x.o < 6 ∧ x.k ≤ 6 ∧ x.q = 0 ∧ y.q = 0) ∧ GG S x.v y.v ∧ (∀ j, j < x.k → GG S (x.hv ((x.o + j) % 6)) (y.hv ((x.o + j) % 6))) ∧ ∀ j, j < 2 → (x.fl j = nI 0 ∧ y.fl j = nI 0) ∨ (x.fl j = nI 1 ∧ y.fl j = nI 1 ∧ GG S (x.sv j) (y.sv j))
theorem RR.up {S S2 : Nat} {x y : ZX} (h : RR S x y) (hS : S ≤ S2) : RR S2 x y := ⟨h.1, h.2.1.up hS, fun j hj => (h.2.2.1 j hj).up hS, fun j hj => (h.2.2.2 j hj).imp id (fun q => ⟨q.1, q.2.1, q.2.2.up hS⟩)⟩
theorem RR_hist {S : Nat} {x y : ZX} (h : RR S x y) : ∀ j, j < (if x.k < 6 then x.k + 1 else 6) → GG S (hup x.hv ((x.o + x.k) % 6) x.v (((if x.k < 6 then x.o else (x.o + 1) % 6) + j) % 6)) (hup y.hv ((y.o + y.k) % 6) y.v (((if x.k < 6 then x.o else (x.o + 1) % 6) + j) % 6)) := by
  obtain ⟨⟨e1, e2, e3, e4, e5, e6⟩, hG, hH, hV⟩ := h
  intro j hj
  rw [← e1, ← e2]
  by_cases c : x.k < 6
  · rw [if_pos c] at hj
    rw [if_pos c]
    by_cases e : j = x.k
    · subst e
      rw [hup_at, hup_at]
      exact hG
    · rw [hup_ne (by omega), hup_ne (by omega)]
      exact hH j (by omega)
  · have e6 : x.k = 6 := by omega
    rw [if_neg c] at hj
    rw [if_neg c, e6]
    by_cases e : j = 5
    · subst e
      rw [show ((x.o + 1) % 6 + 5) % 6 = (x.o + 6) % 6 by omega, hup_at, hup_at]
      exact hG
    · rw [hup_ne (by omega), hup_ne (by omega), show ((x.o + 1) % 6 + j) % 6 = (x.o + (j + 1)) % 6 by omega]
      exact hH (j + 1) (by omega)
theorem RR_rem {S S2 : Nat} {x y : ZX} {v w : CV} (h : RR S x y) (hS : S ≤ S2) (hg : GG S2 v w) : RR S2 (x.rem v) (y.rem w) := by
  have hh := RR_hist h
  obtain ⟨⟨e1, e2, e3, e4, e5, e6⟩, hG, hH, hV⟩ := h
  refine ⟨⟨?_, ?_, ?_, ?_, e5, e6⟩, hg, fun j hj => (hh j hj).up hS, fun j hj => (hV j hj).imp id (fun q => ⟨q.1, q.2.1, q.2.2.up hS⟩)⟩
  · show (if x.k < 6 then x.o else (x.o + 1) % 6) = (if y.k < 6 then y.o else (y.o + 1) % 6)
    rw [e1, e2]
  · show (if x.k < 6 then x.k + 1 else 6) = (if y.k < 6 then y.k + 1 else 6)
    rw [e2]
  · show (if x.k < 6 then x.o else (x.o + 1) % 6) < 6
    split <;> omega
  · show (if x.k < 6 then x.k + 1 else 6) ≤ 6
    split <;> omega
/-- a way of isStep on both islands, from a place on -/
def SG (x y x2 y2 : ZX) (pc : Nat) (ls : List (Option Value)) : Prop := ∀ C : ZP, zR 5 cL_isStep qL_isStep 14 8 188 (zR1 (some .boolean) (some (.int (b2i true))) (hLL x2 y2)) (zR0 (some .boolean) (some (.int (b2i true))) (hLL x2 y2)) C → C pc ls [] (hLL x y)
def sS (a b z : Int32) (L : Nat) : List (Option Value) := [some (.ref 0), some (.ref 97), some (.int a), some (.int b), some (.int z), some (.int (nI L)), none, none, none, none, none, none, none, none]
theorem o_cset (x : ZX) {n j : Nat} (hj : j < 3) (hm : WM x.v n) : ZM yX3_count cX3_count 2 (some .int) 6 134 [.ref 0, .int (nI j)] x.h (some (.int (x.v 0 j))) x.h := by
  have h := o_count x (show j < 14 by omega) hm
  have e : zCo x.v (nI x.k) (nI x.q) n j = x.v 0 j := by
    rcases (show j = 0 ∨ j = 1 ∨ j = 2 by omega) with rfl | rfl | rfl <;> rfl
  rw [e] at h
  exact h
