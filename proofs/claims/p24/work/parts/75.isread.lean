/-! isRead -/
/-- an object whose pad gets k bills -/
def pX (x : ZX) (f : Nat → Bl) : Nat → ZX
  | 0 => (x.v, x.hv, x.o, x.k, x.sv, x.fl, x.ps, 0)
  | k + 1 => (pX x f k).pb (f k).1 (f k).2.1 (f k).2.2.1 (f k).2.2.2
def fBs (f : Nat → Bl) : Nat → List Bl
  | 0 => []
  | k + 1 => fBs f k ++ [f k]
theorem fBs_len (f : Nat → Bl) : ∀ k, (fBs f k).length = k
  | 0 => rfl
  | k + 1 => by rw [fBs, List.length_append, fBs_len f k]; rfl
theorem fBs_map (f : Nat → Bl) : ∀ k, fBs (fun i => mB (f i)) k = (fBs f k).map mB
  | 0 => rfl
  | k + 1 => by rw [fBs, fBs, fBs_map f k, List.map_append]; rfl
/-- signs -/
def sgn (ps : Nat → Int32) (q : Nat) : Prop := ∀ j, j < q → ∃ c, c < 127 ∧ ps j = nI c
theorem sgn_pp {x : ZX} {c : Nat} (h : sgn x.ps x.q) (hc : c < 127) : sgn (x.pp (nI c)).ps (x.pp (nI c)).q := by
  intro j hj
  show ∃ c2, c2 < 127 ∧ upd x.ps x.q (nI c) j = nI c2
  have hj : j < x.q + 1 := hj
  by_cases e : j = x.q
  · rw [e, upd_at]
    exact ⟨c, hc, rfl⟩
  · rw [upd_ne e]
    exact h j (by omega)
theorem sgn_WP {ps : Nat → Int32} {q : Nat} (h : sgn ps q) (hq : q ≤ 60) : WP ps (nI q) q := ⟨rfl, hq, fun j hj => by
  obtain ⟨c, hc, e⟩ := h j hj
  rw [e]
  exact (pk_charN (by omega)).1⟩
theorem zcs_nI (s : Nat) : ∃ c, c < 127 ∧ zcs s = nI c := by
  unfold zcs
  split
  · exact ⟨102, by decide, rfl⟩
  · exact ⟨97, by decide, rfl⟩
  · exact ⟨100, by decide, rfl⟩
theorem pb_q (x : ZX) (l t s : Nat) (e : Bool) : (x.pb l t s e).q = x.q + 3 + bN e := by cases e <;> rfl
theorem pb_sgn {x : ZX} {l t s : Nat} {e : Bool} (h : sgn x.ps x.q) (hl : l < 10) (ht : t < 6) : sgn (x.pb l t s e).ps (x.pb l t s e).q := by
  obtain ⟨c, hc, ec⟩ := zcs_nI s
  have h1 := sgn_pp (sgn_pp h (show 48 + l < 127 by omega)) (show 48 + t < 127 by omega)
  have h2 := sgn_pp h1 hc
  rw [← ec] at h2
  cases e with
  | false => exact h2
  | true => exact sgn_pp h2 (show 33 < 127 by decide)
theorem pb_at (x : ZX) (l t s : Nat) (e : Bool) : (∀ j, j < x.q → (x.pb l t s e).ps j = x.ps j) ∧ (x.pb l t s e).ps x.q = nI (48 + l) ∧ (x.pb l t s e).ps (x.q + 1) = nI (48 + t) ∧ (x.pb l t s e).ps (x.q + 2) = zcs s ∧ (e = true → (x.pb l t s e).ps (x.q + 3) = nI 33) := by
  have h3 : ∀ j, upd (upd (upd x.ps x.q (nI (48 + l))) (x.q + 1) (nI (48 + t))) (x.q + 1 + 1) (zcs s) j = if j = x.q + 2 then zcs s else if j = x.q + 1 then nI (48 + t) else if j = x.q then nI (48 + l) else x.ps j := fun j => rfl
  have hf : (x.pb l t s false).ps = upd (upd (upd x.ps x.q (nI (48 + l))) (x.q + 1) (nI (48 + t))) (x.q + 1 + 1) (zcs s) := rfl
  have ht : (x.pb l t s true).ps = upd (upd (upd (upd x.ps x.q (nI (48 + l))) (x.q + 1) (nI (48 + t))) (x.q + 1 + 1) (zcs s)) (x.q + 1 + 1 + 1) (nI 33) := rfl
  cases e with
  | false =>
    rw [hf]
    refine ⟨fun j hj => ?_, ?_, ?_, ?_, fun q => by cases q⟩
    · rw [h3, if_neg (by omega), if_neg (by omega), if_neg (by omega)]
    · rw [h3, if_neg (by omega), if_neg (by omega), if_pos rfl]
    · rw [h3, if_neg (by omega), if_pos rfl]
    · rw [h3, if_pos rfl]
  | true =>
    rw [ht]
    refine ⟨fun j hj => ?_, ?_, ?_, ?_, fun _ => upd_at⟩
    · rw [upd_ne (by omega), h3, if_neg (by omega), if_neg (by omega), if_neg (by omega)]
    · rw [upd_ne (by omega), h3, if_neg (by omega), if_neg (by omega), if_pos rfl]
    · rw [upd_ne (by omega), h3, if_neg (by omega), if_pos rfl]
    · rw [upd_ne (by omega), h3, if_pos rfl]
/-- the pad with k bills -/
theorem pX_ok (x : ZX) (f : Nat → Bl) (hf : ∀ k, okB (f k)) : ∀ k, PB (pX x f k).ps 0 (fBs f k) (pX x f k).q ∧ (pX x f k).q ≤ 4 * k ∧ sgn (pX x f k).ps (pX x f k).q
  | 0 => ⟨rfl, Nat.le_refl 0, fun j hj => absurd hj (Nat.not_lt_zero j)⟩
  | k + 1 => by
    obtain ⟨h1, h2, h3⟩ := pX_ok x f hf k
    obtain ⟨a1, a2, a3, a4⟩ := hf k
    obtain ⟨p1, p2, p3, p4, p5⟩ := pb_at (pX x f k) (f k).1 (f k).2.1 (f k).2.2.1 (f k).2.2.2
    refine ⟨PB_app h1 p1 ⟨hf k, p2, p3, p4, p5, (pb_q _ _ _ _ _).symm⟩, ?_, pb_sgn h3 a2 a3⟩
    show ((pX x f k).pb (f k).1 (f k).2.1 (f k).2.2.1 (f k).2.2.2).q ≤ 4 * (k + 1)
    rw [pb_q]
    have := bN_le (f k).2.2.2
    omega
theorem pX_q (x y : ZX) (f g : Nat → Bl) (hg : ∀ k, (g k).2.2.2 = (f k).2.2.2) : ∀ k, (pX y g k).q = (pX x f k).q
  | 0 => rfl
  | k + 1 => by
    show ((pX y g k).pb (g k).1 (g k).2.1 (g k).2.2.1 (g k).2.2.2).q = ((pX x f k).pb (f k).1 (f k).2.1 (f k).2.2.1 (f k).2.2.2).q
    rw [pb_q, pb_q, pX_q x y f g hg k, hg k]
theorem pb_r (x : ZX) (l t s : Nat) (e : Bool) : (x.pb l t s e).v = x.v ∧ (x.pb l t s e).hv = x.hv ∧ (x.pb l t s e).o = x.o ∧ (x.pb l t s e).k = x.k ∧ (x.pb l t s e).sv = x.sv ∧ (x.pb l t s e).fl = x.fl := by
  cases e <;> exact ⟨rfl, rfl, rfl, rfl, rfl, rfl⟩
theorem pX_r (x : ZX) (f : Nat → Bl) : ∀ k, (pX x f k).v = x.v ∧ (pX x f k).hv = x.hv ∧ (pX x f k).o = x.o ∧ (pX x f k).k = x.k ∧ (pX x f k).sv = x.sv ∧ (pX x f k).fl = x.fl
  | 0 => ⟨rfl, rfl, rfl, rfl, rfl, rfl⟩
  | k + 1 => by
    obtain ⟨h1, h2, h3, h4, h5, h6⟩ := pX_r x f k
    obtain ⟨p1, p2, p3, p4, p5, p6⟩ := pb_r (pX x f k) (f k).1 (f k).2.1 (f k).2.2.1 (f k).2.2.2
    exact ⟨p1.trans h1, p2.trans h2, p3.trans h3, p4.trans h4, p5.trans h5, p6.trans h6⟩
/-- an object behind reading -/
def rX (x : ZX) (c : CV) : ZX := (c, hup x.hv ((x.o + x.k) % 6) x.v, (if x.k < 6 then x.o else (x.o + 1) % 6), (if x.k < 6 then x.k + 1 else 6), x.sv, x.fl, x.ps, 0)
theorem p_read (x : ZX) {n m : Nat} (f : Nat → Bl) (hf : ∀ k, okB (f k)) (h0 : 0 < m) (h6 : m ≤ 6) (hm : WM x.v n) (ho : x.o < 6) (hk : x.k ≤ 6) : ZM yX3_read cX3_read 3 (some .int) 5 124 [.ref 0] (pX x f m).h (some (.int (nI (rdl (fBs f m) x.v 0).2))) (rX (pX x f m) (rdl (fBs f m) x.v 0).1).h := by
  obtain ⟨h1, h2, h3⟩ := pX_ok x f hf m
  obtain ⟨e1, e2, e3, e4, e5, e6⟩ := pX_r x f m
  have hlen := PB_le h1
  rw [fBs_len] at hlen
  have hsc := PB_sc (fBs f m) 0 h1 (by omega)
  rw [Nat.sub_zero] at hsc
  have hrd := PB_rd (fBs f m) 0 21 (pX x f m).v 0 h1 (by rw [fBs_len]; omega)
  have h := o_read (pX x f m) (n := n) (by rw [e1]; exact hm) (by rw [e3]; exact ho) (by rw [e4]; exact hk) (sgn_WP h3 (by omega)) hsc
  rw [hrd, e1] at h
  have er : rX (pX x f m) (rdl (fBs f m) x.v 0).1 = ((rdl (fBs f m) x.v 0).1, hup (pX x f m).hv (((pX x f m).o + (pX x f m).k) % 6) x.v, (if (pX x f m).k < 6 then (pX x f m).o else ((pX x f m).o + 1) % 6), (if (pX x f m).k < 6 then (pX x f m).k + 1 else 6), (pX x f m).sv, (pX x f m).fl, (pX x f m).ps, 0) := by rw [rX, e1]
  rw [er]
  exact h
theorem RR_read {S : Nat} {x y : ZX} (h : RR S x y) (f g : Nat → Bl) (m S2 : Nat) (hS : S ≤ S2) {v w : CV} (hg : GG S2 v w) : RR S2 (rX (pX x f m) v) (rX (pX y g m) w) := by
  obtain ⟨e1, e2, e3, e4, e5, e6⟩ := pX_r x f m
  obtain ⟨p1, p2, p3, p4, p5, p6⟩ := pX_r y g m
  have h2 := RR_rem h hS hg
  have ex : rX (pX x f m) v = (v, (x.rem v).hv, (x.rem v).o, (x.rem v).k, x.sv, x.fl, (pX x f m).ps, 0) := by rw [rX, e1, e2, e3, e4, e5, e6]; rfl
  have ey : rX (pX y g m) w = (w, (y.rem w).hv, (y.rem w).o, (y.rem w).k, y.sv, y.fl, (pX y g m).ps, 0) := by rw [rX, p1, p2, p3, p4, p5, p6]; rfl
  rw [ex, ey]
  exact ⟨⟨h2.1.1, h2.1.2.1, h2.1.2.2.1, h2.1.2.2.2.1, rfl, rfl⟩, h2.2.1, h2.2.2.1, h2.2.2.2⟩
/-- the law's bill number k -/
def rZ (a b : Int32) (k : Nat) : Int32 := (a >>> (nI k &&& 31)) ^^^ (b >>> ((nI 2 * nI k) &&& 31))
def rB (a b : Int32) (k : Nat) : Bl := (1 + upn (rZ a b k) 9, upn (rZ a b k >>> (nI 4 &&& 31)) (if upn b 3 = 0 then 6 else 2), upn (rZ a b k >>> (nI 7 &&& 31)) 3, decide (upn (rZ a b k >>> (nI 5 &&& 31)) 4 = 0))
theorem rB_ok (a b : Int32) (k : Nat) : okB (rB a b k) := by
  have h1 := upn_lt (rZ a b k) (m := 9) (by decide)
  have h3 := upn_lt (rZ a b k >>> (nI 7 &&& 31)) (m := 3) (by decide)
  refine ⟨by show 1 ≤ 1 + upn (rZ a b k) 9; omega, by show 1 + upn (rZ a b k) 9 < 10; omega, ?_, h3⟩
  show upn (rZ a b k >>> (nI 4 &&& 31)) (if upn b 3 = 0 then 6 else 2) < 6
  split
  · exact upn_lt _ (by decide)
  · exact Nat.lt_trans (upn_lt _ (by decide)) (by decide)
theorem mB_ok {r : Bl} (h : okB r) : okB (mB r) := by
  obtain ⟨h1, h2, h3, h4⟩ := h
  exact ⟨h1, h2, by show 5 - r.2.1 < 6; omega, Nat.mod_lt _ (by decide)⟩
