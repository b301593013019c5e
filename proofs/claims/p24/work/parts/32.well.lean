/-! a code in order, and what changes do to it and to its mirror -/
/-- of the law j: when it was made and repealed, by which and of which; no law in force before it is like it -/
def LW (v : CV) (n s j : Nat) : Prop :=
  (∃ m, m ≤ s ∧ v 5 j = nI m ∧ (iF v j = true ∨ ∃ r, m ≤ r ∧ r ≤ s ∧ v 6 j = nI r)) ∧
  (v 8 j = -(nI 6) ∨ ∃ b, j < b ∧ b < n ∧ v 8 j = nI b ∧ iF v j = false ∧ v 7 b = nI j ∧ v 5 b = v 6 j ∧ v 2 b = v 2 j) ∧
  (v 7 j = -(nI 6) ∨ ∃ a, a < j ∧ v 7 j = nI a ∧ v 8 a = nI j) ∧
  (∀ i, i < j → iF v i = true → iF v j = true → v 2 i = v 2 j → v 3 i = v 3 j → v 4 i = v 4 j → False)
def GW (S n s : Nat) (v : CV) : Prop := WM v n ∧ WL v n ∧ v 10 0 = nI s ∧ s ≤ S ∧ ∀ j, j < n → LW v n s j
theorem GW.up {S S2 n s : Nat} {v : CV} (h : GW S n s v) (hS : S ≤ S2) : GW S2 n s v := ⟨h.1, h.2.1, h.2.2.1, Nat.le_trans h.2.2.2.1 hS, h.2.2.2.2⟩
theorem zEL_eq {v : CV} {n a : Nat} (hm : WM v n) (ha : a < n) (y : Int32) : zEL v (nI a) y = vup (vup v 6 (upd (v 6) a (v 10 0))) 8 (upd (v 8) a y) := by
  rw [zEL, zL_at hm ha, zcl hm.2 ha]
theorem iF_s {v : CV} {j s : Nat} (hs : s < 2 ^ 31) (h : v 6 j = nI s) : iF v j = false := by
  rw [iF, h]
  exact decide_eq_false (nI_nn hs)
theorem iF_n {v : CV} {j : Nat} (h : v 6 j = -(nI 6)) : iF v j = true := by
  rw [iF, h]
  exact decide_eq_true rfl
theorem iF_c {v w : CV} {j : Nat} (h : w 6 j = v 6 j) : iF w j = iF v j := by rw [iF, iF, h]
section ENF
variable {v : CV} {l t s x : Int32} {n : Nat}
theorem EN_x6 : zEN v l t s (-(nI 6)) n = zEN1 v l t s (-(nI 6)) n := by rw [zEN, zEL, zL_no1 (by decide)]
theorem EN_a {a : Nat} (ha : a < n) (hn : n < 80) : zEN v l t s (nI a) n = vup (vup (zEN1 v l t s (nI a) n) 6 (upd (upd (v 6) n (-(nI 6))) a (v 10 0))) 8 (upd (upd (v 8) n (-(nI 6))) a (nI n)) := by
  have hm1 : WM (zEN1 v l t s (nI a) n) (n + 1) := ⟨rfl, hn⟩
  rw [zEN, zEL_eq hm1 (by omega)]
  rfl
theorem EN_n (hn : n < 80) (hx : zNm x n) : zEN v l t s x n 2 n = l ∧ zEN v l t s x n 3 n = t ∧ zEN v l t s x n 4 n = s ∧ zEN v l t s x n 5 n = v 10 0 ∧ zEN v l t s x n 6 n = -(nI 6) ∧ zEN v l t s x n 7 n = x ∧ zEN v l t s x n 8 n = -(nI 6) := by
  rcases hx with rfl | ⟨a, ha, rfl⟩
  · rw [EN_x6]
    exact ⟨upd_at, upd_at, upd_at, upd_at, upd_at, upd_at, upd_at⟩
  · rw [EN_a ha hn]
    refine ⟨upd_at, upd_at, upd_at, upd_at, ?_, upd_at, ?_⟩
    · show upd (upd (v 6) n (-(nI 6))) a (v 10 0) n = _
      rw [upd_ne (by omega), upd_at]
    · show upd (upd (v 8) n (-(nI 6))) a (nI n) n = _
      rw [upd_ne (by omega), upd_at]
theorem EN_o (hn : n < 80) (hx : zNm x n) {j : Nat} (hj : j < n) : zEN v l t s x n 2 j = v 2 j ∧ zEN v l t s x n 3 j = v 3 j ∧ zEN v l t s x n 4 j = v 4 j ∧ zEN v l t s x n 5 j = v 5 j ∧ zEN v l t s x n 7 j = v 7 j := by
  have hj2 : ¬ j = n := by omega
  rcases hx with rfl | ⟨a, ha, rfl⟩
  · rw [EN_x6]
    exact ⟨upd_ne hj2, upd_ne hj2, upd_ne hj2, upd_ne hj2, upd_ne hj2⟩
  · rw [EN_a ha hn]
    exact ⟨upd_ne hj2, upd_ne hj2, upd_ne hj2, upd_ne hj2, upd_ne hj2⟩
theorem EN_k (hn : n < 80) (hx : zNm x n) {j : Nat} (hj : j < n) (he : ¬ x = nI j) : zEN v l t s x n 6 j = v 6 j ∧ zEN v l t s x n 8 j = v 8 j := by
  have hj2 : ¬ j = n := by omega
  rcases hx with rfl | ⟨a, ha, rfl⟩
  · rw [EN_x6]
    exact ⟨upd_ne hj2, upd_ne hj2⟩
  · have hja : ¬ j = a := fun q => he (by rw [q])
    rw [EN_a ha hn]
    constructor
    · show upd (upd (v 6) n (-(nI 6))) a (v 10 0) j = _
      rw [upd_ne hja, upd_ne hj2]
    · show upd (upd (v 8) n (-(nI 6))) a (nI n) j = _
      rw [upd_ne hja, upd_ne hj2]
theorem EN_r (hn : n < 80) {a : Nat} (ha : a < n) : zEN v l t s (nI a) n 6 a = v 10 0 ∧ zEN v l t s (nI a) n 8 a = nI n := by
  rw [EN_a ha hn]
  exact ⟨upd_at, upd_at⟩
theorem EN_c (hn : n < 80) (hx : zNm x n) : zEN v l t s x n 9 0 = nI (n + 1) ∧ zEN v l t s x n 10 0 = v 10 0 ∧ zEN v l t s x n 11 0 = v 11 0 ∧ zEN v l t s x n 0 = v 0 ∧ zEN v l t s x n 1 = v 1 := by
  rcases hx with rfl | ⟨a, ha, rfl⟩
  · rw [EN_x6]
    exact ⟨rfl, rfl, rfl, rfl, rfl⟩
  · rw [EN_a ha hn]
    exact ⟨rfl, rfl, rfl, rfl, rfl⟩
end ENF
theorem zany_ff {p : Nat → Bool} {n : Nat} (h : zany p n = false) {j : Nat} (hj : j < n) : p j = false := by
  cases e : p j with
  | false => rfl
  | true => rw [zany_t e hj] at h; cases h
/-- what is known of a bill against which there is no reason -/
theorem RA0 {v : CV} {l t s x : Int32} {n : Nat} (hm : WM v n) (hx : zNm x n) (h : zRA v l t s x n = nI 0) : (x = -(nI 6) ∨ ∃ a, a < n ∧ x = nI a ∧ iF v a = true ∧ v 2 a = l) ∧ ∀ j, j < n → iF v j = true → ¬ x = nI j → v 2 j = l → v 3 j = t → v 4 j = s → False := by
  rw [zRA] at h
  cases h1 : zAN v l t s x n with
  | true =>
    rw [h1] at h
    have h : nI 1 = nI 0 := h
    exact absurd h (by decide)
  | false =>
  rw [h1] at h
  refine ⟨?_, fun j hj a b c d e => ?_⟩
  rotate_left
  · have q := zany_ff h1 hj
    rw [pAN, a, iLK, decide_eq_true (show ¬ nI j = x from fun z => b z.symm), decide_eq_true c, decide_eq_true d, decide_eq_true e] at q
    cases q
  cases h2 : zLK v x l t s with
  | true =>
    rw [h2] at h
    have h : nI 2 = nI 0 := h
    exact absurd h (by decide)
  | false =>
  rw [h2] at h
  cases h3 : zRL v l t s n with
  | true =>
    rw [h3] at h
    have h : nI 3 = nI 0 := h
    exact absurd h (by decide)
  | false =>
  rw [h3] at h
  cases h4 : zL v x with
  | false =>
    rcases hx with e | ⟨j, hj, rfl⟩
    · exact Or.inl e
    · rw [zL_at hm hj] at h4
      cases h4
  | true =>
    rw [h4] at h
    cases h5 : (zF v x && decide (v 2 x.toNatClampNeg = l)) with
    | false =>
      rw [h5] at h
      have h : nI 4 = nI 0 := h
      exact absurd h (by decide)
    | true =>
      obtain ⟨j, hj, rfl⟩ := zL_nI hm h4
      rw [zcl hm.2 hj, zF_at hm hj] at h5
      simp only [Bool.and_eq_true, decide_eq_true_eq] at h5
      exact Or.inr ⟨j, hj, rfl, h5.1, h5.2⟩
theorem GW_EN {S n s : Nat} {v : CV} (h : GW S n s v) (hn : n < 80) (hS : s < 2 ^ 31) {l t u x : Int32} (vl : ∃ a, 1 ≤ a ∧ a < 10 ∧ l = nI a) (vt : ∃ b, b < 6 ∧ t = nI b) (vs : ∃ c, c < 3 ∧ u = nI c) (hx : x = -(nI 6) ∨ ∃ a, a < n ∧ x = nI a ∧ iF v a = true ∧ v 2 a = l) (hno : ∀ j, j < n → iF v j = true → ¬ x = nI j → v 2 j = l → v 3 j = t → v 4 j = u → False) : GW S (n + 1) s (zEN v l t u x n) := by
  obtain ⟨hm, hl, hs, hsS, hw⟩ := h
  have hz : zNm x n := hx.imp id (fun ⟨a, ha, e, _⟩ => ⟨a, ha, e⟩)
  obtain ⟨n2, n3, n4, n5, n6, n7, n8⟩ := EN_n (v := v) (l := l) (t := t) (s := u) hn hz
  refine ⟨WM_EN hn, WL_EN hn hl (by rw [hs]; exact nI_nn hS) vl vt vs, (zEN_10 _ _ _ _ _ _).trans hs, hsS, fun j hj => ?_⟩
  by_cases ej : j = n
  · subst ej
    refine ⟨⟨s, Nat.le_refl s, n5.trans hs, Or.inl (iF_n n6)⟩, Or.inl n8, ?_, ?_⟩
    · rcases hx with e | ⟨a, ha, e, -⟩
      · exact Or.inl (n7.trans e)
      · refine Or.inr ⟨a, ha, n7.trans e, ?_⟩
        rw [e]
        exact (EN_r hn ha).2
    · intro i hi f1 f2 a b c
      obtain ⟨o2, o3, o4, o5, o7⟩ := EN_o (v := v) (l := l) (t := t) (s := u) hn hz hi
      have ne : ¬ x = nI i := by
        intro q
        subst q
        rw [iF_s hS ((EN_r hn hi).1.trans hs)] at f1
        cases f1
      exact hno i hi ((iF_c (EN_k hn hz hi ne).1).symm.trans f1) ne (by rw [← o2, a, n2]) (by rw [← o3, b, n3]) (by rw [← o4, c, n4])
  · have hj : j < n := by omega
    obtain ⟨o2, o3, o4, o5, o7⟩ := EN_o (v := v) (l := l) (t := t) (s := u) hn hz hj
    obtain ⟨⟨m, m1, m2, m3⟩, hB, hA, hN⟩ := hw j hj
    by_cases e : x = nI j
    · have r := EN_r (v := v) (l := l) (t := t) (s := u) hn hj
      rw [← e] at r
      have hl2 : v 2 j = l := by
        rcases hx with q | ⟨a, ha, q, -, q2⟩
        · exact absurd (e.symm.trans q) (nI_nn (by omega))
        · have : a = j := (nI_eq (by omega) (by omega)).mp (q.symm.trans e)
          subst this
          exact q2
      have fj : iF (zEN v l t u x n) j = false := iF_s hS (r.1.trans hs)
      refine ⟨⟨m, m1, o5.trans m2, Or.inr ⟨s, m1, Nat.le_refl s, r.1.trans hs⟩⟩, Or.inr ⟨n, hj, Nat.lt_succ_self n, r.2, fj, n7.trans e, n5.trans r.1.symm, n2.trans (hl2.symm.trans o2.symm)⟩, ?_, ?_⟩
      · rcases hA with q | ⟨a, ha, q, q2⟩
        · exact Or.inl (o7.trans q)
        · have ne : ¬ x = nI a := fun z => by
            have := (nI_eq (a := j) (b := a) (by omega) (by omega)).mp (e.symm.trans z)
            omega
          exact Or.inr ⟨a, ha, o7.trans q, (EN_k hn hz (by omega) ne).2.trans q2⟩
      · intro i hi f1 f2
        rw [fj] at f2
        cases f2
    · have k := EN_k (v := v) (l := l) (t := t) (s := u) hn hz hj e
      have fj : iF (zEN v l t u x n) j = iF v j := iF_c k.1
      refine ⟨⟨m, m1, o5.trans m2, ?_⟩, ?_, ?_, ?_⟩
      · rcases m3 with q | ⟨r, r1, r2, r3⟩
        · exact Or.inl (fj.trans q)
        · exact Or.inr ⟨r, r1, r2, k.1.trans r3⟩
      · rcases hB with q | ⟨b, b1, b2, b3, b4, b5, b6, b7⟩
        · exact Or.inl (k.2.trans q)
        · obtain ⟨p2, p3, p4, p5, p7⟩ := EN_o (v := v) (l := l) (t := t) (s := u) hn hz b2
          exact Or.inr ⟨b, b1, by omega, k.2.trans b3, fj.trans b4, p7.trans b5, by rw [p5, b6, k.1], by rw [p2, b7, o2]⟩
      · rcases hA with q | ⟨a, ha, q, q2⟩
        · exact Or.inl (o7.trans q)
        · have ne : ¬ x = nI a := fun z => by
            rcases hx with y | ⟨a2, ha2, y, y2, -⟩
            · exact absurd (z.symm.trans y) (nI_nn (by omega))
            · have e3 : a2 = a := (nI_eq (by omega) (by omega)).mp (y.symm.trans z)
              subst e3
              have h8 := (hl a2 ha2).2.2.2 y2
              exact nI_nn (j := j) (by omega) (q2.symm.trans h8)
          exact Or.inr ⟨a, ha, o7.trans q, (EN_k hn hz (by omega) ne).2.trans q2⟩
      · intro i hi f1 f2 a b c
        obtain ⟨p2, p3, p4, p5, p7⟩ := EN_o (v := v) (l := l) (t := t) (s := u) hn hz (show i < n by omega)
        have ne : ¬ x = nI i := by
          intro q
          subst q
          rw [iF_s hS ((EN_r hn (by omega)).1.trans hs)] at f1
          cases f1
        exact hN i hi ((iF_c (EN_k hn hz (by omega) ne).1).symm.trans f1) (fj.symm.trans f2) (by rw [← p2, a, o2]) (by rw [← p3, b, o3]) (by rw [← p4, c, o4])
theorem GW_EL {S n s a : Nat} {v : CV} (h : GW S n s v) (hS : s < 2 ^ 31) (ha : a < n) (hf : iF v a = true) : GW S n s (zEL v (nI a) (-(nI 6))) := by
  obtain ⟨hm, hl, hs, hsS, hw⟩ := h
  refine ⟨WM_EL hm, WL_EL hm hl (by rw [hs]; exact nI_nn hS), (zEL_10 _ _ _).trans hs, hsS, fun j hj => ?_⟩
  rw [zEL_eq hm ha]
  have k6 : ∀ i, ¬ i = a → vup (vup v 6 (upd (v 6) a (v 10 0))) 8 (upd (v 8) a (-(nI 6))) 6 i = v 6 i := fun i e => upd_ne e
  have k8 : ∀ i, ¬ i = a → vup (vup v 6 (upd (v 6) a (v 10 0))) 8 (upd (v 8) a (-(nI 6))) 8 i = v 8 i := fun i e => upd_ne e
  have a6 : vup (vup v 6 (upd (v 6) a (v 10 0))) 8 (upd (v 8) a (-(nI 6))) 6 a = nI s := upd_at.trans hs
  have a8 : vup (vup v 6 (upd (v 6) a (v 10 0))) 8 (upd (v 8) a (-(nI 6))) 8 a = -(nI 6) := upd_at
  have o : ∀ f, f = 2 ∨ f = 3 ∨ f = 4 ∨ f = 5 ∨ f = 7 → vup (vup v 6 (upd (v 6) a (v 10 0))) 8 (upd (v 8) a (-(nI 6))) f = v f := by
    rintro f (rfl | rfl | rfl | rfl | rfl) <;> rfl
  generalize vup (vup v 6 (upd (v 6) a (v 10 0))) 8 (upd (v 8) a (-(nI 6))) = w at k6 k8 a6 a8 o ⊢
  have o2 := o 2 (by omega)
  have o3 := o 3 (by omega)
  have o4 := o 4 (by omega)
  have o5 := o 5 (by omega)
  have o7 := o 7 (by omega)
  have fa : iF w a = false := iF_s hS a6
  have fo : ∀ i, ¬ i = a → iF w i = iF v i := fun i e => iF_c (k6 i e)
  obtain ⟨⟨m, m1, m2, m3⟩, hB, hA, hN⟩ := hw j hj
  refine ⟨⟨m, m1, by rw [o5]; exact m2, ?_⟩, ?_, ?_, ?_⟩
  · by_cases e : j = a
    · subst e
      exact Or.inr ⟨s, m1, Nat.le_refl s, a6⟩
    · rcases m3 with q | ⟨r, r1, r2, r3⟩
      · exact Or.inl ((fo j e).trans q)
      · exact Or.inr ⟨r, r1, r2, (k6 j e).trans r3⟩
  · by_cases e : j = a
    · subst e
      exact Or.inl a8
    · rcases hB with q | ⟨b, b1, b2, b3, b4, b5, b6, b7⟩
      · exact Or.inl ((k8 j e).trans q)
      · exact Or.inr ⟨b, b1, b2, (k8 j e).trans b3, (fo j e).trans b4, by rw [o7]; exact b5, by rw [o5, k6 j e]; exact b6, by rw [o2]; exact b7⟩
  · rcases hA with q | ⟨b, b1, b2, b3⟩
    · exact Or.inl (by rw [o7]; exact q)
    · have ne : ¬ b = a := by
        intro q
        subst q
        exact nI_nn (j := j) (by have := hm.2; omega) (b3.symm.trans ((hl b ha).2.2.2 hf))
      exact Or.inr ⟨b, b1, by rw [o7]; exact b2, (k8 b ne).trans b3⟩
  · intro i hi f1 f2 p q r
    have n1 : ¬ i = a := fun z => by subst z; rw [fa] at f1; cases f1
    have n2 : ¬ j = a := fun z => by subst z; rw [fa] at f2; cases f2
    rw [o2] at p
    rw [o3] at q
    rw [o4] at r
    exact hN i hi ((fo i n1).symm.trans f1) ((fo j n2).symm.trans f2) p q r
theorem GW_se {S n s : Nat} {v : CV} (h : GW S n s v) : GW (S + 1) n (s + 1) (zSe v) := by
  obtain ⟨hm, hl, hs, hsS, hw⟩ := h
  refine ⟨hm, hl, ?_, by omega, fun j hj => ?_⟩
  · show upd (v 10) 0 (v 10 0 + nI 1) 0 = nI (s + 1)
    rw [upd_at, hs, nI_add]
  · obtain ⟨⟨m, m1, m2, m3⟩, hB, hA, hN⟩ := hw j hj
    exact ⟨⟨m, by omega, m2, m3.imp id (fun ⟨r, r1, r2, r3⟩ => ⟨r, r1, by omega, r3⟩)⟩, hB, hA, hN⟩
theorem GW_set {S n s : Nat} {v : CV} (g : Nat → Int32) (h : GW S n s v) : GW S n s (vup v 0 g) := h
theorem GW_wish {S n s : Nat} {v : CV} (g : Nat → Int32) (h : GW S n s v) : GW S n s (vup v 1 g) := h
theorem GW_fail {S n s : Nat} {v : CV} (g : Nat → Int32) (h : GW S n s v) : GW S n s (vup v 11 g) := h
/-! the mirror's changes -/
theorem mr_EN {n : Nat} {v w : CV} (h : MR n v w) (hn : n < 80) {x : Int32} (hx : zNm x n) {b : Nat} (hb : b < 6) (l s : Int32) : MR (n + 1) (zEN v l (nI b) s x n) (zEN w l (nI (5 - b)) (nx s) x n) := by
  obtain ⟨v9, v10, v11, v0, v1⟩ := EN_c (v := v) (l := l) (t := nI b) (s := s) hn hx
  obtain ⟨w9, w10, w11, w0, w1⟩ := EN_c (v := w) (l := l) (t := nI (5 - b)) (s := nx s) hn hx
  refine ⟨fun i hi => by rw [w0, v0]; exact h.1 i hi, fun c d hc hd => by rw [w1, v1]; exact h.2.1 c d hc hd, fun j hj => ?_, by rw [w9, v9], by rw [w10, v10]; exact h.2.2.2.2.1, by rw [w11, v11]; exact h.2.2.2.2.2⟩
  by_cases ej : j = n
  · subst ej
    obtain ⟨n2, n3, n4, n5, n6, n7, n8⟩ := EN_n (v := v) (l := l) (t := nI b) (s := s) hn hx
    obtain ⟨p2, p3, p4, p5, p6, p7, p8⟩ := EN_n (v := w) (l := l) (t := nI (5 - b)) (s := nx s) hn hx
    refine ⟨by rw [p2, n2], by rw [p3, n3, mt5 hb], by rw [p4, n4], by rw [p5, n5]; exact h.2.2.2.2.1, by rw [p6, n6], by rw [p7, n7], by rw [p8, n8]⟩
  · have hj : j < n := by omega
    obtain ⟨e2, e3, e4, e5, e6, e7, e8⟩ := h.2.2.1 j hj
    obtain ⟨n2, n3, n4, n5, n7⟩ := EN_o (v := v) (l := l) (t := nI b) (s := s) hn hx hj
    obtain ⟨p2, p3, p4, p5, p7⟩ := EN_o (v := w) (l := l) (t := nI (5 - b)) (s := nx s) hn hx hj
    refine ⟨by rw [p2, n2, e2], by rw [p3, n3, e3], by rw [p4, n4, e4], by rw [p5, n5, e5], ?_, by rw [p7, n7, e7], ?_⟩
    · by_cases e : x = nI j
      · subst e
        rw [(EN_r hn hj).1, (EN_r hn hj).1]
        exact h.2.2.2.2.1
      · rw [(EN_k hn hx hj e).1, (EN_k hn hx hj e).1, e6]
    · by_cases e : x = nI j
      · subst e
        rw [(EN_r hn hj).2, (EN_r hn hj).2]
      · rw [(EN_k hn hx hj e).2, (EN_k hn hx hj e).2, e8]
theorem mr_EL {n a : Nat} {v w : CV} (h : MR n v w) (hm : WM v n) (ha : a < n) (y : Int32) : MR n (zEL v (nI a) y) (zEL w (nI a) y) := by
  rw [zEL_eq hm ha, zEL_eq (mr_WM h hm) ha]
  refine ⟨h.1, h.2.1, fun j hj => ?_, h.2.2.2⟩
  obtain ⟨e2, e3, e4, e5, e6, e7, e8⟩ := h.2.2.1 j hj
  refine ⟨e2, e3, e4, e5, ?_, e7, ?_⟩
  · show upd (w 6) a (w 10 0) j = upd (v 6) a (v 10 0) j
    by_cases e : j = a
    · subst e
      rw [upd_at, upd_at]
      exact h.2.2.2.2.1
    · rw [upd_ne e, upd_ne e, e6]
  · show upd (w 8) a y j = upd (v 8) a y j
    by_cases e : j = a
    · subst e
      rw [upd_at, upd_at]
    · rw [upd_ne e, upd_ne e, e8]
theorem mr_se {n : Nat} {v w : CV} (h : MR n v w) : MR n (zSe v) (zSe w) := by
  refine ⟨h.1, h.2.1, h.2.2.1, h.2.2.2.1, ?_, h.2.2.2.2.2⟩
  show upd (w 10) 0 (w 10 0 + nI 1) 0 = upd (v 10) 0 (v 10 0 + nI 1) 0
  rw [upd_at, upd_at, h.2.2.2.2.1]
theorem mr_fail {n : Nat} {v w : CV} (h : MR n v w) : MR n (vup v 11 (upd (v 11) 0 (v 11 0 + nI 1))) (vup w 11 (upd (w 11) 0 (w 11 0 + nI 1))) := by
  refine ⟨h.1, h.2.1, h.2.2.1, h.2.2.2.1, h.2.2.2.2.1, ?_⟩
  show upd (w 11) 0 (w 11 0 + nI 1) 0 = upd (v 11) 0 (v 11 0 + nI 1) 0
  rw [upd_at, upd_at, h.2.2.2.2.2]
theorem mr_set {n j : Nat} {v w : CV} (h : MR n v w) (y : Int32) : MR n (vup v 0 (upd (v 0) j y)) (vup w 0 (upd (w 0) j y)) := by
  refine ⟨fun i hi => ?_, h.2⟩
  show upd (w 0) j y i = upd (v 0) j y i
  by_cases e : i = j
  · subst e
    rw [upd_at, upd_at]
  · rw [upd_ne e, upd_ne e, h.1 i hi]
theorem mr_wish {n a b : Nat} {v w : CV} (h : MR n v w) (hb : b < 6) (y : Int32) : MR n (vup v 1 (upd (v 1) (6 * a + b) y)) (vup w 1 (upd (w 1) (6 * a + (5 - b)) (nx y))) := by
  refine ⟨h.1, fun c d hc hd => ?_, h.2.2⟩
  show upd (w 1) (6 * a + (5 - b)) (nx y) (6 * c + (5 - d)) = nx (upd (v 1) (6 * a + b) y (6 * c + d))
  by_cases e : 6 * c + d = 6 * a + b
  · have e2 : 6 * c + (5 - d) = 6 * a + (5 - b) := by omega
    rw [e, e2, upd_at, upd_at]
  · have e2 : ¬ 6 * c + (5 - d) = 6 * a + (5 - b) := by omega
    rw [upd_ne e, upd_ne e2, h.2.1 c d hc hd]
