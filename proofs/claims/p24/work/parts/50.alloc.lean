/-! THE Z LOGIC, cells made: a family of predicates, by where the cells lie and how much room is used -/
theorem zRA_one {U : State} {a b : ClassId} {ty : FieldType} (h : va_RA U a ty) (h2 : va_RA U b ty) : a = b := by
  cases ty with
  | object C =>
    obtain ⟨k1, c1, -, -, -, e1⟩ := h
    obtain ⟨k2, c2, -, -, -, e2⟩ := h2
    exact Option.some.inj (e1.symm.trans e2)
  | _ => exact Option.some.inj (Eq.trans (Eq.symm h) h2)
def zvb (N : Nat) : List Value → Bool
  | [] => true
  | .ref i :: t => (Nat.ble (i + 1) N || Nat.ble 1000 i) && zvb N t
  | _ :: t => zvb N t
def zlb (N : Nat) : List (Option Value) → Bool
  | [] => true
  | some (.ref i) :: t => (Nat.ble (i + 1) N || Nat.ble 1000 i) && zlb N t
  | _ :: t => zlb N t
def zhb (N : Nat) : List ZC → Prop
  | [] => True
  | .inl _ :: t => zhb N t
  | .inr (.inl x) :: t => zvb N x.2 = true ∧ zhb N t
  | .inr (.inr x) :: t => (∀ j i, x.2 j = some i → i < N ∨ 1000 ≤ i) ∧ zhb N t
def zag (N : Nat) (ad ad2 : Nat → Nat) : Prop := ∀ i, i < N ∨ 1000 ≤ i → ad2 i = ad i
theorem zor_b {N i : Nat} (h : (Nat.ble (i + 1) N || Nat.ble 1000 i) = true) : i < N ∨ 1000 ≤ i := by
  rcases Bool.or_eq_true_iff.mp h with h | h
  · exact Or.inl (Nat.le_of_ble_eq_true h)
  · exact Or.inr (Nat.le_of_ble_eq_true h)
theorem zv_ag {N : Nat} {ad ad2 : Nat → Nat} (hg : zag N ad ad2) : ∀ (vs : List Value), zvb N vs = true → vs.map (zv ad2) = vs.map (zv ad)
  | [], _ => rfl
  | w :: t, h => by
    cases w with
    | ref i =>
      simp only [zvb] at h
      have h1 := Bool.and_eq_true_iff.mp h
      rw [List.map_cons, List.map_cons, zv_ag hg t h1.2]
      show Value.ref (ad2 i) :: _ = Value.ref (ad i) :: _
      rw [hg i (zor_b h1.1)]
    | _ => exact congrArg (List.cons _) (zv_ag hg t h)
theorem zce_ag {N : Nat} {cA : Nat → ClassId} {ad ad2 : Nat → Nat} (hg : zag N ad ad2) {c : ZC} (h : zhb N [c]) : zce cA ad2 c = zce cA ad c := by
  match c, h with
  | .inl x, _ => rfl
  | .inr (.inl x), h =>
    show Sum.inr (x.1, x.2.map (zv ad2)) = Sum.inr (x.1, x.2.map (zv ad))
    rw [zv_ag hg x.2 h.1]
  | .inr (.inr x), h =>
    show Sum.inl (cA 3, x.1, _) = Sum.inl (cA 3, x.1, _)
    have e : (fun j => (x.2 j).map ad2) = (fun j => (x.2 j).map ad) := by
      funext j
      cases hj : x.2 j with
      | none => rfl
      | some i =>
        show some (ad2 i) = some (ad i)
        rw [hg i (h.1 j i hj)]
    rw [e]
theorem zhb_get {N : Nat} : ∀ (h : List ZC), zhb N h → ∀ (i : Nat) (c : ZC), h[i]? = some c → zhb N [c]
  | [], _, i, c, hi => by simp at hi
  | .inl x :: t, h, 0, c, hi => by simp at hi; subst hi; trivial
  | .inl x :: t, h, i + 1, c, hi => zhb_get t h i c (by simpa using hi)
  | .inr (.inl x) :: t, h, 0, c, hi => by simp at hi; subst hi; exact ⟨h.1, trivial⟩
  | .inr (.inl x) :: t, h, i + 1, c, hi => zhb_get t h.2 i c (by simpa using hi)
  | .inr (.inr x) :: t, h, 0, c, hi => by simp at hi; subst hi; exact ⟨h.1, trivial⟩
  | .inr (.inr x) :: t, h, i + 1, c, hi => zhb_get t h.2 i c (by simpa using hi)
theorem zW_ag {N : Nat} {cA : Nat → ClassId} {ad ad2 : Nat → Nat} (hg : zag N ad ad2) {h : List ZC} (hb : zhb N h) (hl : h.length ≤ N) : zW cA ad2 h = zW cA ad h := by
  apply List.ext_getElem?
  intro i
  simp only [zW, List.getElem?_mapIdx]
  cases hi : h[i]? with
  | none => rfl
  | some c =>
    have hlt := (List.getElem?_eq_some_iff.mp hi).1
    show some (ad2 i, zce cA ad2 c) = some (ad i, zce cA ad c)
    rw [hg i (Or.inl (by omega)), zce_ag hg (zhb_get h hb i c hi)]
theorem zW_app {cA : Nat → ClassId} {ad : Nat → Nat} {h : List ZC} (c : ZC) : zW cA ad (h ++ [c]) = zW cA ad h ++ [(ad h.length, zce cA ad c)] := by
  simp [zW, List.mapIdx_append]
theorem zlb_get {N : Nat} : ∀ (ls : List (Option Value)), zlb N ls = true → ∀ (j i : Nat), ls[j]? = some (some (.ref i)) → i < N ∨ 1000 ≤ i
  | [], _, j, i, hj => by simp at hj
  | none :: t, h, 0, i, hj => by simp at hj
  | none :: t, h, j + 1, i, hj => zlb_get t h j i (by simpa using hj)
  | some w :: t, h, j, i, hj => by
    cases w with
    | ref k =>
      simp only [zlb] at h
      have h1 := Bool.and_eq_true_iff.mp h
      cases j with
      | zero => simp at hj; subst hj; exact zor_b h1.1
      | succ j => exact zlb_get t h1.2 j i (by simpa using hj)
    | _ =>
      cases j with
      | zero => simp at hj
      | succ j => exact zlb_get t h j i (by simpa using hj)
theorem zHas_ag {N : Nat} {ad ad2 : Nat → Nat} (hg : zag N ad ad2) {la : Array Slot} {ls : List (Option Value)} (hb : zlb N ls = true) (h : zHas ad la ls) : zHas ad2 la ls := by
  refine ⟨h.1, h.2.1, fun i v hi => ?_⟩
  have h1 := h.2.2 i v hi
  cases v with
  | ref k =>
    show la[i]? = some (.val (.ref (ad2 k)))
    rw [hg k (zlb_get ls hb i k hi)]
    exact h1
  | _ => exact h1
def zfx (f ad : Nat → Nat) : Prop := ad 0 = f 0 ∧ ∀ i, 1000 ≤ i → ad i = f i
/-- the package of a walk that makes cells -/
def zNR (own : Nat) (cc : ByteArray) (code : List (Nat × Nat × Instr)) (nL fr lo mc ms : Nat) (R1 : Int32 → List ZC → Prop) (R0 : List ZC → Prop) (f : Nat → Nat) (CN : (Nat → Nat) → Nat → Nat → ZP) : Prop :=
  ∃ (p : Program) (l : Launch) (e : Env) (R : Room) (s : State) (m : MethodId) (args : Array Value) (below : List Frame) (meth : Method) (c : Code) (Q : State → Prop) (D : va_G) (cA : Nat → ClassId) (A : Nat → Prop),
    CallFix p m c cc nL s args zt (zcn own) ∧ zE D cA f A s s.heap ∧ va_AO RX0 s ∧ zchk cc code = true ∧ fr ≤ R.frames ∧ lo ≤ R.locals ∧ (mc ≤ R.cells ∧ ms ≤ R.slots) ∧ (∀ q, s.heap.size ≤ q → A q) ∧ (own < 5 → meth.name = "<init>") ∧
    (∀ (ad : Nat → Nat) (kc ks pc : Nat) (x : Int32) (ls : List (Option Value)) (h : List ZC), zfx f ad → kc ≤ mc → ks ≤ ms → decode cc pc = .ok (.ireturn, 1) → R1 x h → Z p l e R s m args below meth c Q D cA ad A kc ks pc ls [.int x] h) ∧
    (∀ (ad : Nat → Nat) (kc ks pc : Nat) (ls : List (Option Value)) (h : List ZC), zfx f ad → kc ≤ mc → ks ≤ ms → decode cc pc = .ok (.return_, 1) → R0 h → Z p l e R s m args below meth c Q D cA ad A kc ks pc ls [] h) ∧
    CN = fun ad kc ks => Z p l e R s m args below meth c Q D cA ad A kc ks
section ZNR
variable {own : Nat} {cc : ByteArray} {code : List (Nat × Nat × Instr)} {nL fr lo mc ms : Nat} {R1 : Int32 → List ZC → Prop} {R0 : List ZC → Prop} {f ad : Nat → Nat} {CN : (Nat → Nat) → Nat → Nat → ZP} {kc ks pc : Nat} {ls : List (Option Value)} {st : List Value} {h : List ZC}
theorem zE.fx {D : va_G} {cA : Nat → ClassId} {f ad : Nat → Nat} {A : Nat → Prop} {U : State} {H : Heap} (h : zE D cA f A U H) (hf : zfx f ad) : zE D cA ad A U H := by
  obtain ⟨k1, k2, k3, k4⟩ := h
  refine ⟨k1, k2, ?_, ?_⟩
  · rw [hf.2 1000 (by decide)]; exact k3
  · rw [hf.2 1001 (by decide)]; exact k4
theorem zNR.R (hN : zNR own cc code nL fr lo mc ms R1 R0 f CN) (hf : zfx f ad) (hc : kc ≤ mc) (hs : ks ≤ ms) : zR own cc code nL fr lo R1 R0 (CN ad kc ks) := by
  obtain ⟨p, l, e, R, s, m, args, below, meth, c, Q, D, cA, A, F, hE, hO, hck, hfr, hlo, hcr, hA, hin, h1, h0, rfl⟩ := hN
  exact ⟨p, l, e, R, s, m, args, below, meth, c, Q, D, cA, ad, A, kc, ks, F, hE.fx hf, hck, hfr, hlo, ⟨Nat.le_trans hc hcr.1, Nat.le_trans hs hcr.2⟩, fun pc x ls h => h1 ad kc ks pc x ls h hf hc hs, fun pc ls h => h0 ad kc ks pc ls h hf hc hs, rfl⟩
/-- an array of zeros is made -/
theorem zn_newa (hN : zNR own cc code nL fr lo mc ms R1 R0 f CN) (hf : zfx f ad) {atype : ArrayType} {ty : FieldType} {t n : Nat} (hty : newarray.typeOf atype = ty) (ht : ∀ cA, (zT cA)[t]? = some (cA t, ty)) (hw : Cond.arrayClass ty ∈ zt) (hdv : defaultValue ty = .int 0) (hn : n < 2 ^ 31) (hby : n * componentBytes ty ≤ 536870912) (hc : kc + 1 ≤ mc) (hs : ks + n ≤ ms) (hd : decode cc pc = .ok (.newarray atype, 2)) (hl : h.length < 1000) (hb : zhb h.length h) (hlb : zlb h.length ls = true) (hsb : zvb h.length st = true)
    (k : ∀ ad2, zfx f ad2 → CN ad2 (kc + 1) (ks + n) (pc + 2) ls (.ref h.length :: st) (h ++ [.inl (t, n, fun _ => nI 0)])) (h0 : 0 < h.length) : CN ad kc ks pc ls (.int (nI n) :: st) h := by
  obtain ⟨p, l, e, R, s, m, args, below, meth, c, Q, D, cA, A, F, hE, hO, hck, hfr, hlo, hcr, hA, hin, h1, hr0, rfl⟩ := hN
  intro H locs la hP hD hS hL
  refine va_newa F.1 F.2.1 (F.2.2.2.2 _ (by rw [hty]; exact hw)) hty hE.1 hP hD hS hA (a0 := (n, .inl (fun _ => nI 0))) (fun c0 => ?_) (nI_pos hn) (nI_clamp hn) hby (Nat.le_trans hc hcr.1) (Nat.le_trans hs hcr.2) hd (fun q cB H1 hK1 hP1 hD1 hS1 => ?_)
  · rw [vp_cell_i]
    congr 1
    rw [hdv]
    rfl
  · have e1 : cB = cA t := by
      have a1 := (hK1.2 (zT cA).length (cB, ty) (by simp)).2
      have a2 := (hE.1.2 t _ (ht cA)).2
      exact zRA_one a1 a2
    subst e1
    have hg : zag h.length ad (fun i => if i = h.length then q else ad i) := fun i hi => if_neg (by omega)
    have hf2 : zfx f (fun i => if i = h.length then q else ad i) := ⟨by show (if _ then _ else _) = _; rw [if_neg (by omega)]; exact hf.1, fun i hi => by show (if _ then _ else _) = _; rw [if_neg (by omega)]; exact hf.2 i hi⟩
    have eW : zW cA (fun i => if i = h.length then q else ad i) (h ++ [.inl (t, n, fun _ => nI 0)]) = zW cA ad h ++ [(q, .inl (cA t, n, .inl (fun _ => nI 0)))] := by
      rw [zW_app, zW_ag hg hb (Nat.le_refl _), if_pos rfl]
      rfl
    have eS : (Value.ref h.length :: st).map (zv (fun i => if i = h.length then q else ad i)) = .ref q :: st.map (zv ad) := by
      rw [List.map_cons, zv_ag hg st hsb]
      show Value.ref (if h.length = h.length then q else ad h.length) :: _ = _
      rw [if_pos rfl]
    have := k _ hf2 H1 locs la (by rw [eW]; exact hP1) (by rw [eW]; exact hD1) hS1 (zHas_ag hg hlb hL)
    rw [eS] at this
    exact this
end ZNR
