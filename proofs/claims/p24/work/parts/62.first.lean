/-! cells that are the same within their arrays' lengths, references too; the first state -/
def zeqr1 (c d : ZC) : Prop := match c, d with
  | .inr (.inr x), .inr (.inr y) => x.1 = y.1 ∧ ∀ j, j < x.1 → x.2 j = y.2 j
  | c, d => c = d
def zeqrv : List ZC → List ZC → Prop
  | [], [] => True
  | c :: t, d :: u => zeqr1 c d ∧ zeqrv t u
  | _, _ => False
theorem zeqrv_len : ∀ (h h2 : List ZC), zeqrv h h2 → h.length = h2.length
  | [], [], _ => rfl
  | c :: t, d :: u, hq => by simp [zeqrv_len t u hq.2]
  | [], d :: u, hq => hq.elim
  | c :: t, [], hq => hq.elim
theorem zeqrv_get : ∀ (h h2 : List ZC), zeqrv h h2 → ∀ (i : Nat) (d : ZC), h2[i]? = some d → ∃ c, h[i]? = some c ∧ zeqr1 c d
  | [], [], _, i, d, hi => by simp at hi
  | c :: t, d :: u, hq, 0, x, hi => by
    simp at hi
    subst hi
    exact ⟨c, rfl, hq.1⟩
  | c :: t, d :: u, hq, i + 1, x, hi => by
    simp only [List.getElem?_cons_succ] at hi ⊢
    exact zeqrv_get t u hq.2 i x hi
  | [], d :: u, hq, i, x, hi => hq.elim
  | c :: t, [], hq, i, x, hi => hq.elim
theorem zeqrv_P {D : va_G} {cA : Nat → ClassId} {ad : Nat → Nat} {h h2 : List ZC} {H : Heap} (hq : zeqrv h h2) (hP : va_P D vwCl (zW cA ad h) H) : va_P D vwCl (zW cA ad h2) H := by
  intro k q hk
  obtain ⟨d, hd, rfl⟩ := zW_inv hk
  obtain ⟨c, hc, hcd⟩ := zeqrv_get h h2 hq k d hd
  have h1 := hP k _ (zW_get hc)
  match c, d, hcd with
  | .inr (.inr x), .inr (.inr y), hcd =>
    obtain ⟨e1, e2⟩ := hcd
    have h1 : H[ad k]? = some (vp_cell (cA 3) (x.1, .inr (.inr (.inr (.inr (fun j => (x.2 j).map ad)))))) := h1
    show H[ad k]? = some (vp_cell (cA 3) (y.1, .inr (.inr (.inr (.inr (fun j => (y.2 j).map ad))))))
    rw [h1, ← e1, vp_cell_q, vp_cell_q]
    congr 1
    exact arrV_eq _ (fun j hj => by rw [e2 j hj])
  | .inl x, d, hcd =>
    have e : (Sum.inl x : ZC) = d := hcd
    rw [← e]
    exact h1
  | .inr (.inl x), d, hcd =>
    have e : (Sum.inr (Sum.inl x) : ZC) = d := hcd
    rw [← e]
    exact h1
  | .inr (.inr x), .inl y, hcd => cases hcd
  | .inr (.inr x), .inr (.inl y), hcd => cases hcd
