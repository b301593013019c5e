/-! THE Z LOGIC, runs, methods, calls -/
def zchk (cc : ByteArray) : List (Nat × Nat × Instr) → Bool
  | [] => true
  | q :: t => (match decode cc q.1 with
      | .ok (j, n) => decide (n = zlen n j) && (decide (znorm q.1 j = q.2.2) && decide (q.2.1 = q.1 + n))
      | .error _ => false) && ((match t with
      | [] => true
      | q2 :: _ => decide (q2.1 = q.2.1)) && zchk cc t)
theorem zchk_head {cc : ByteArray} {q : Nat × Nat × Instr} {t : List (Nat × Nat × Instr)} (h : zchk cc (q :: t) = true) : (∃ j n, decode cc q.1 = .ok (j, n) ∧ n = zlen n j ∧ znorm q.1 j = q.2.2 ∧ q.2.1 = q.1 + n) ∧ (∀ q2 t2, t = q2 :: t2 → q2.1 = q.2.1) ∧ zchk cc t = true := by
  simp only [zchk, Bool.and_eq_true] at h
  obtain ⟨h1, h2, h3⟩ := h
  refine ⟨?_, ?_, h3⟩
  · split at h1
    · rename_i j n hd
      simp only [Bool.and_eq_true, decide_eq_true_eq] at h1
      exact ⟨j, n, hd, h1.1, h1.2.1, h1.2.2⟩
    · cases h1
  · rintro q2 t2 rfl
    simpa using h2
theorem zchk_drop {cc : ByteArray} : ∀ (k : Nat) (t : List (Nat × Nat × Instr)), zchk cc t = true → zchk cc (t.drop k) = true
  | 0, t, h => h
  | k + 1, [], h => h
  | k + 1, q :: t, h => zchk_drop k t (zchk_head h).2.2
def zrun (own : Nat) (R1 : Int32 → List ZC → Prop) (R0 : List ZC → Prop) (C : ZP) : Nat → List (Nat × Nat × Instr) → ZK
  | 0, q :: _, ls, st, h => C q.1 ls st h
  | n + 1, q :: t, ls, st, h => zi own R1 R0 C q.2.2 ls st h (fun ls st h => zrun own R1 R0 C n t ls st h)
  | _, [], _, _, _ => False
def zpc (code : List (Nat × Nat × Instr)) (k : Nat) : Nat := match code.drop k with
  | q :: _ => q.1
  | [] => 0
/-- what a walk is given of the state in which its method began, beside its cells: the classes, links between nest mates, the two tables -/
def zA (ad : Nat → Nat) (n : Nat) : Nat → Prop := fun q => ∃ i, i < n ∧ q = ad i
def zn1 : Cond := .methodLinkNest RX2 27 yX3_isLength "RepealedLaws"
def zn2 : Cond := .methodLinkNest RX2 34 yX3_isTopic "RepealedLaws"
def zn3 : Cond := .methodLinkNest RX2 40 yX3_isStance "RepealedLaws"
def zn4 : Cond := .methodLinkNest RX3 18 yX2_init "RepealedLaws"
def zleast : Nat → Value := fun j => match j with
  | 0 => .int (nI 1)
  | 1 => .int (nI 1)
  | _ => .int (nI 0)
def zgreat : Nat → Value := fun j => match j with
  | 0 => .int (nI 5)
  | 1 => .int (nI 16)
  | _ => .int (nI 9)
def zE (D : va_G) (cA : Nat → ClassId) (ad : Nat → Nat) (A : Nat → Prop) (U : State) (H : Heap) : Prop :=
  va_K D vwCl (zT cA) U ∧ (va_Nw zn1 U ∧ va_Nw zn2 U ∧ va_Nw zn3 U ∧ va_Nw zn4 U) ∧
  (va_Z "RepealedLaws" "LEAST_VALUES" "[I" (.ref (ad 1000)) A U H ∧ va_T .int (ad 1000) 3 zleast A U H) ∧
  (va_Z "RepealedLaws" "GREATEST_VALUES" "[I" (.ref (ad 1001)) A U H ∧ va_T .int (ad 1001) 3 zgreat A U H)
theorem zE.to {D : va_G} {cA : Nat → ClassId} {ad ad' : Nat → Nat} {A A' : Nat → Prop} {s U : State} {H : Heap} {locs : List Loc} (h : zE D cA ad A s s.heap) (hS : va_S A s.heap H locs) (hU : U.heap = H) (hW : s.WarmedH U.vm) (hA : ∀ q, A' q → A q) (h0 : ad' 1000 = ad 1000) (h1 : ad' 1001 = ad 1001) : zE D cA ad' A' U U.heap := by
  obtain ⟨k1, ⟨n1, n2, n3, n4⟩, ⟨z1, t1⟩, ⟨z2, t2⟩⟩ := h
  have hq : ∀ a : Nat, a < s.heap.size → ¬ A a → U.heap[a]? = s.heap[a]? := fun a b c => by rw [hU]; exact hS.2.1 a b c
  rw [← h0] at z1 t1
  rw [← h1] at z2 t2
  exact ⟨va_K.moved hW.alike k1, ⟨va_Nw.warmM hW n1, va_Nw.warmM hW n2, va_Nw.warmM hW n3, va_Nw.warmM hW n4⟩, ⟨((z1.kept hq).moved hW.alike).narrow hA, ((t1.kept hq).moved hW.alike).narrow hA⟩, ⟨((z2.kept hq).moved hW.alike).narrow hA, ((t2.kept hq).moved hW.alike).narrow hA⟩⟩
theorem zE.same {D : va_G} {cA : Nat → ClassId} {ad : Nat → Nat} {A : Nat → Prop} {u U : State} {H : Heap} (hvm : u.vm = U.vm) (h : zE D cA ad A u H) : zE D cA ad A U H := by
  have ha : u.vm.Alike U.vm := by rw [hvm]; exact Vm.Alike.refl _
  obtain ⟨k1, ⟨n1, n2, n3, n4⟩, ⟨z1, t1⟩, ⟨z2, t2⟩⟩ := h
  exact ⟨va_K.moved ha k1, ⟨va_Nw.same rfl hvm n1, va_Nw.same rfl hvm n2, va_Nw.same rfl hvm n3, va_Nw.same rfl hvm n4⟩, ⟨z1.moved ha, t1.moved ha⟩, ⟨z2.moved ha, t2.moved ha⟩⟩
/-- the package of a walk: the machine's part, and what may be said at a return -/
def zR (own : Nat) (cc : ByteArray) (code : List (Nat × Nat × Instr)) (nL fr lo : Nat) (R1 : Int32 → List ZC → Prop) (R0 : List ZC → Prop) (C : ZP) : Prop :=
  ∃ (p : Program) (l : Launch) (e : Env) (R : Room) (s : State) (m : MethodId) (args : Array Value) (below : List Frame) (meth : Method) (c : Code) (Q : State → Prop) (D : va_G) (cA : Nat → ClassId) (ad : Nat → Nat) (A : Nat → Prop) (kc ks : Nat),
    CallFix p m c cc nL s args zt (zcn own) ∧ zE D cA ad A s s.heap ∧ zchk cc code = true ∧ fr ≤ R.frames ∧ lo ≤ R.locals ∧ (kc ≤ R.cells ∧ ks ≤ R.slots) ∧
    (∀ (pc : Nat) (x : Int32) (ls : List (Option Value)) (h : List ZC), decode cc pc = .ok (.ireturn, 1) → R1 x h → Z p l e R s m args below meth c Q D cA ad A kc ks pc ls [.int x] h) ∧
    (∀ (pc : Nat) (ls : List (Option Value)) (h : List ZC), decode cc pc = .ok (.return_, 1) → R0 h → Z p l e R s m args below meth c Q D cA ad A kc ks pc ls [] h) ∧
    C = Z p l e R s m args below meth c Q D cA ad A kc ks
section ZRUN
variable {own : Nat} {cc : ByteArray} {code : List (Nat × Nat × Instr)} {nL fr lo : Nat} {R1 : Int32 → List ZC → Prop} {R0 : List ZC → Prop} {C : ZP}
theorem zgo (hC : zR own cc code nL fr lo R1 R0 C) (k n : Nat) {pc : Nat} {ls : List (Option Value)} {st : List Value} {h : List ZC} (hp : zpc code k = pc) (hz : zrun own R1 R0 C n (code.drop k) ls st h) : C pc ls st h := by
  obtain ⟨p, l, e, R, s, m, args, below, meth, c, Q, D, cA, ad, A, kc, ks, F, hK, hck, hfr, hlo, hcr, hR1, hR0, rfl⟩ := hC
  have key : ∀ (n : Nat) (t : List (Nat × Nat × Instr)), zchk cc t = true → ∀ (ls : List (Option Value)) (st : List Value) (h : List ZC), zrun own R1 R0 (Z p l e R s m args below meth c Q D cA ad A kc ks) n t ls st h → ∀ q t2, t = q :: t2 → Z p l e R s m args below meth c Q D cA ad A kc ks q.1 ls st h := by
    intro n
    induction n with
    | zero =>
      rintro t ht ls st h hz q t2 rfl
      exact hz
    | succ n ih =>
      rintro t ht ls st h hz q t2 rfl
      obtain ⟨⟨j, n1, hd, hl, hj, hn⟩, hnext, ht2⟩ := zchk_head ht
      refine zi_ok F hK.1 hR1 hR0 hd hl hj hz (fun ls2 st2 h2 hz2 => ?_)
      cases t2 with
      | nil => cases n <;> exact hz2.elim
      | cons q2 t3 =>
        have := ih (q2 :: t3) ht2 ls2 st2 h2 hz2 q2 t3 rfl
        rw [hnext q2 t3 rfl, hn] at this
        exact this
  subst hp
  unfold zpc
  cases ht : code.drop k with
  | nil =>
    rw [ht] at hz
    cases n <;> exact hz.elim
  | cons q t2 =>
    exact key n (code.drop k) (zchk_drop k code hck) ls st h hz q t2 ht
theorem zmask (hC : zR own cc code nL fr lo R1 R0 C) (bs : List Bool) {pc : Nat} {ls : List (Option Value)} {st : List Value} {h : List ZC} (hz : C pc (zmk bs ls) st h) : C pc ls st h := by
  obtain ⟨p, l, e, R, s, m, args, below, meth, c, Q, D, cA, ad, A, kc, ks, F, hK, hck, hfr, hlo, hcr, hR1, hR0, rfl⟩ := hC
  exact fun H locs la hP hD hS hL => hz H locs la hP hD hS (zHas_mk bs hL)
/-! heaps that are the same within the arrays' lengths -/
def zeqc (c d : ZC) : Prop := match c, d with
  | .inl x, .inl y => x.1 = y.1 ∧ x.2.1 = y.2.1 ∧ ∀ j, j < x.2.1 → x.2.2 j = y.2.2 j
  | c, d => c = d
def zeqv : List ZC → List ZC → Prop
  | [], [] => True
  | c :: t, d :: u => zeqc c d ∧ zeqv t u
  | _, _ => False
theorem zeqc_rf (c : ZC) : zeqc c c := by
  obtain x | x := c
  · exact ⟨rfl, rfl, fun _ _ => rfl⟩
  · rfl
theorem zeqv_rf : ∀ (h : List ZC), zeqv h h
  | [] => trivial
  | c :: t => ⟨zeqc_rf c, zeqv_rf t⟩
theorem zeqv_len : ∀ (h h2 : List ZC), zeqv h h2 → h.length = h2.length
  | [], [], _ => rfl
  | c :: t, d :: u, hq => by simp [zeqv_len t u hq.2]
  | [], d :: u, hq => hq.elim
  | c :: t, [], hq => hq.elim
theorem zeqv_get : ∀ (h h2 : List ZC), zeqv h h2 → ∀ (i : Nat) (d : ZC), h2[i]? = some d → ∃ c, h[i]? = some c ∧ zeqc c d
  | [], [], _, i, d, hi => by simp at hi
  | c :: t, d :: u, hq, 0, x, hi => by
    simp at hi
    subst hi
    exact ⟨c, rfl, hq.1⟩
  | c :: t, d :: u, hq, i + 1, x, hi => by
    simp only [List.getElem?_cons_succ] at hi ⊢
    exact zeqv_get t u hq.2 i x hi
  | [], d :: u, hq, i, x, hi => hq.elim
  | c :: t, [], hq, i, x, hi => hq.elim
theorem arrV_eq (cI : ClassId) {N : Nat} {f g : Nat → Value} (h : ∀ j, j < N → f j = g j) : arrV cI N f = arrV cI N g := by
  unfold arrV
  congr 1
  apply Array.ext
  · simp
  · intro i h1 h2
    simp at h1 ⊢
    exact h i h1
theorem zeqv_P {D : va_G} {cA : Nat → ClassId} {ad : Nat → Nat} {h h2 : List ZC} {H : Heap} (hq : zeqv h h2) (hP : va_P D vwCl (zW cA ad h) H) : va_P D vwCl (zW cA ad h2) H := by
  intro k q hk
  obtain ⟨d, hd, rfl⟩ := zW_inv hk
  obtain ⟨c, hc, hcd⟩ := zeqv_get h h2 hq k d hd
  have h1 := hP k _ (zW_get hc)
  obtain x | x := c
  · obtain y | y := d
    · obtain ⟨e1, e2, e3⟩ := hcd
      have h1 : H[ad k]? = some (vp_cell (cA x.1) (x.2.1, .inl x.2.2)) := h1
      show H[ad k]? = some (vp_cell (cA y.1) (y.2.1, .inl y.2.2))
      rw [h1, ← e1, ← e2, vp_cell_i, vp_cell_i]
      congr 1
      exact arrV_eq _ (fun j hj => by rw [e3 j hj])
    · cases hcd
  · obtain y | y := d
    · cases hcd
    · have e : (Sum.inr x : ZC) = Sum.inr y := hcd
      rw [← e]
      exact h1
theorem zD_len {cA : Nat → ClassId} {ad : Nat → Nat} {A : Nat → Prop} {h h2 : List ZC} (hl : h2.length = h.length) (hD : va_D A (zW cA ad h)) : va_D A (zW cA ad h2) := by
  have key : ∀ (k : Nat) (q : Nat × va_E), (zW cA ad h2)[k]? = some q → ∃ q2, (zW cA ad h)[k]? = some q2 ∧ q2.1 = q.1 := by
    intro k q hk
    obtain ⟨d, hd, rfl⟩ := zW_inv hk
    have hlt : k < h.length := by rw [← hl]; exact (List.getElem?_eq_some_iff.mp hd).1
    exact ⟨_, zW_get (List.getElem?_eq_getElem hlt), rfl⟩
  refine ⟨fun i j p q hi hj hpq => ?_, fun k q hk => ?_⟩
  · obtain ⟨p2, h1, e1⟩ := key i p hi
    obtain ⟨q2, h3, e2⟩ := key j q hj
    exact hD.1 i j p2 q2 h1 h3 (by rw [e1, e2, hpq])
  · obtain ⟨q2, h1, e1⟩ := key k q hk
    rw [← e1]
    exact hD.2 k q2 h1
theorem zeq (hC : zR own cc code nL fr lo R1 R0 C) {h2 : List ZC} {pc : Nat} {ls : List (Option Value)} {st : List Value} {h : List ZC} (hq : zeqv h h2) (hz : C pc ls st h2) : C pc ls st h := by
  obtain ⟨p, l, e, R, s, m, args, below, meth, c, Q, D, cA, ad, A, kc, ks, F, hK, hck, hfr, hlo, hcr, hR1, hR0, rfl⟩ := hC
  exact fun H locs la hP hD hS hL => hz H locs la (zeqv_P hq hP) (zD_len (zeqv_len _ _ hq).symm hD) hS hL
end ZRUN
/-! methods -/
theorem zA_D {cA : Nat → ClassId} {ad : Nat → Nat} {h : List ZC} {A : Nat → Prop} (hD : va_D A (zW cA ad h)) : va_D (zA ad h.length) (zW cA ad h) := ⟨hD.1, fun k q hk => by
  obtain ⟨d, hd, rfl⟩ := zW_inv hk
  exact ⟨k, (List.getElem?_eq_some_iff.mp hd).1, rfl⟩⟩
theorem zA_sub {cA : Nat → ClassId} {ad : Nat → Nat} {h : List ZC} {A : Nat → Prop} (hD : va_D A (zW cA ad h)) : ∀ q, zA ad h.length q → A q := by
  rintro q ⟨i, hi, rfl⟩
  exact hD.2 i _ (zW_get (List.getElem?_eq_getElem hi))
def zR1 (ret : Option FieldType) (rv : Option Value) (h' : List ZC) : Int32 → List ZC → Prop := fun x h1 => match ret with
  | some ty => narrow ty (.int x) = .int x ∧ rv = some (.int x) ∧ h1 = h'
  | none => False
def zR0 (ret : Option FieldType) (rv : Option Value) (h' : List ZC) : List ZC → Prop := fun h1 => match ret with
  | some _ => False
  | none => rv = none ∧ h1 = h'
/-- the contract of a method: at the cells h, with these arguments, it answers rv and leaves h' -/
def ZM (y : MethodName) (cc : ByteArray) (nL : Nat) (ret : Option FieldType) (fr lo : Nat) (arg : List Value) (h : List ZC) (rv : Option Value) (h' : List ZC) : Prop :=
  h'.length = h.length ∧ ∀ (l : Launch) (D : va_G) (cA : Nat → ClassId) (ad : Nat → Nat),
    Met l y (.code y cc nL ret :: zt) { frames := fr, cells := 0, slots := 0, locals := lo }
      (va_Pc (arg.map (zv ad)) (fun U => va_P D vwCl (zW cA ad h) U.heap ∧ zE D cA ad (zA ad h.length) U U.heap ∧ va_D (fun _ => True) (zW cA ad h)))
      (fun _ st oc t => oc = .returned (rv.map (zv ad)) ∧ va_P D vwCl (zW cA ad h') t.heap ∧ va_F (zA ad h.length) st t) 0 0 (zA ad h.length)
set_option maxHeartbeats 1000000 in
theorem zm_of {y : MethodName} {cc : ByteArray} {nL : Nat} {ret : Option FieldType} {fr lo : Nat} {arg : List Value} {h : List ZC} {rv : Option Value} {h' : List ZC} (own : Nat) (code : List (Nat × Nat × Instr)) (hy : plainName y.cls = true) (hcls : y.cls = zcn own) (hck : zchk cc code = true) (hlen : h'.length = h.length) (hfit : (zargl arg).length ≤ nL)
    (body : ∀ C : ZP, zR own cc code nL fr lo (zR1 ret rv h') (zR0 ret rv h') C → C 0 (zarg nL arg) [] h) : ZM y cc nL ret fr lo arg h rv h' := by
  refine ⟨hlen, fun l D cA ad => ?_⟩
  refine Met.ofW (cc := cc) (maxL := nL) (ret := ret) hy rfl ?_
  intro p e s m args below meth c s₁ B hml hv
  obtain ⟨rfl, hP, hK, hD0⟩ := hv
  have hx := B.exec
  have hb := B.bytes
  have hr := B.returns
  have hlocks := B.notSynchronized
  have hts := atoms_spec (ws := .code y cc nL ret :: zt) B.pre
  have hown : s.vm.findClass (zcn own) = some m.cls := hcls ▸ findClass_of_methodNamed B.named
  have hD := zA_D hD0
  rw [lg_entry_eq]
  refine body _ ⟨p, l, e, _, s, m, _, below, meth, c, _, D, cA, ad, zA ad h.length, 0, 0, ⟨hx, hb, hml, hown, fun w hw => hts w (List.mem_cons_of_mem _ hw)⟩, hK, hck, Nat.le_refl _, Nat.le_refl _, ⟨Nat.zero_le _, Nat.zero_le _⟩, ?_, ?_, rfl⟩ s.heap [] _ hP hD va_S.rf (zHas_arg hfit)
  · intro pc x ls h1 hd h2 H locs la hP hD hS hL
    cases ret with
    | none => exact h2.elim
    | some ty =>
      obtain ⟨hn, rfl, rfl⟩ := h2
      exact W.zret (v := x) hx hb hr hn (fun t ht hW => ⟨rfl, by rw [ht]; exact hP, hS.F ht⟩) hS.2.2 hd
  · intro pc ls h1 hd h2 H locs la hP hD hS hL
    cases ret with
    | some ty => exact h2.elim
    | none =>
      obtain ⟨rfl, rfl⟩ := h2
      exact W.vret hx hb hr (fun t ht hW => ⟨rfl, by rw [ht]; exact hP, hS.F ht⟩) hS.2.2 hd
