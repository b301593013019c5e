/-! THE Z LOGIC, constructors: their contracts, their calls -/
def zvu (N : Nat) (v : Value) : Value := match v with
  | .ref i => .ref (i + N)
  | v => v
def zcu (N : Nat) (c : ZC) : ZC := match c with
  | .inl x => .inl x
  | .inr (.inl x) => .inr (.inl (x.1, x.2.map (zvu N)))
  | .inr (.inr x) => .inr (.inr (x.1, fun j => (x.2 j).map (fun i => i + N)))
/-- all that is referred to lies within n cells -/
def zvc (n : Nat) : List Value → Bool
  | [] => true
  | .ref i :: t => Nat.ble (i + 1) n && zvc n t
  | _ :: t => zvc n t
def zcc1 (n : Nat) (c : ZC) : Prop := match c with
  | .inl _ => True
  | .inr (.inl x) => zvc n x.2 = true
  | .inr (.inr x) => ∀ j i, x.2 j = some i → i < n
def zhc (n : Nat) (h : List ZC) : Prop := ∀ (i : Nat) (c : ZC), h[i]? = some c → zcc1 n c
theorem zvc_map {n N : Nat} {ad2 ad3 : Nat → Nat} (hg : ∀ i, i < n → ad3 (i + N) = ad2 i) : ∀ vs : List Value, zvc n vs = true → (vs.map (zvu N)).map (zv ad3) = vs.map (zv ad2)
  | [], _ => rfl
  | w :: t, h => by
    cases w with
    | ref i =>
      simp only [zvc] at h
      have h1 := Bool.and_eq_true_iff.mp h
      rw [List.map_cons, List.map_cons, List.map_cons, zvc_map hg t h1.2]
      show Value.ref (ad3 (i + N)) :: _ = Value.ref (ad2 i) :: _
      rw [hg i (Nat.le_of_ble_eq_true h1.1)]
    | _ => exact congrArg (List.cons _) (zvc_map hg t h)
theorem zcu_ce {n N : Nat} {cA : Nat → ClassId} {ad2 ad3 : Nat → Nat} (hg : ∀ i, i < n → ad3 (i + N) = ad2 i) {c : ZC} (h : zcc1 n c) : zce cA ad3 (zcu N c) = zce cA ad2 c := by
  match c, h with
  | .inl x, _ => rfl
  | .inr (.inl x), h =>
    show Sum.inr (x.1, (x.2.map (zvu N)).map (zv ad3)) = Sum.inr (x.1, x.2.map (zv ad2))
    rw [zvc_map hg x.2 h]
  | .inr (.inr x), h =>
    show Sum.inl (cA 3, x.1, _) = Sum.inl (cA 3, x.1, _)
    have e : (fun j => ((x.2 j).map (fun i => i + N)).map ad3) = (fun j => (x.2 j).map ad2) := by
      funext j
      cases hj : x.2 j with
      | none => rfl
      | some i =>
        show some (ad3 (i + N)) = some (ad2 i)
        rw [hg i (h j i hj)]
    rw [e]
def zB (f : Nat → Nat) (sz : Nat) : Nat → Prop := fun q => q = f 0 ∨ sz ≤ q
/-- the contract of a constructor: out of an object with the fields fs0 alone it makes the cells hI -/
def ZI (y : MethodName) (cc : ByteArray) (nL fr lo mc ms ci : Nat) (fs0 : List Value) (hI : List ZC) : Prop :=
  ∀ (l : Launch) (D : va_G) (cA : Nat → ClassId) (f : Nat → Nat) (sz : Nat),
    Met l y (.code y cc nL none :: zt) { frames := fr, cells := mc, slots := ms, locals := lo }
      (va_Pc [.ref (f 0)] (fun U => U.heap.size = sz ∧ va_P D vwCl (zW cA f [.inr (.inl (ci, fs0))]) U.heap ∧ zE D cA f (zB f sz) U U.heap ∧ va_AO RX0 U))
      (fun _ st oc t => oc = .returned none ∧ (∃ ad, zfx f ad ∧ va_P D vwCl (zW cA ad hI) t.heap ∧ va_D (zB f sz) (zW cA ad hI)) ∧ va_F (zB f sz) st t) mc ms (zB f sz)
theorem zD_1 {f : Nat → Nat} {sz : Nat} {cA : Nat → ClassId} {c : ZC} : va_D (zB f sz) (zW cA f [c]) := by
  have key : ∀ (k : Nat) (q : Nat × va_E), (zW cA f [c])[k]? = some q → k = 0 ∧ q.1 = f 0 := by
    intro k q hk
    obtain ⟨d, hd, rfl⟩ := zW_inv hk
    have hlt := (List.getElem?_eq_some_iff.mp hd).1
    have e : k = 0 := by simpa using hlt
    subst e
    exact ⟨rfl, rfl⟩
  exact ⟨fun i j p q hi hj _ => (key i p hi).1.trans (key j q hj).1.symm, fun k q hk => Or.inl (key k q hk).2⟩
set_option maxHeartbeats 1000000 in
theorem zi_of {y : MethodName} {cc : ByteArray} {nL fr lo mc ms ci : Nat} {fs0 : List Value} {hI : List ZC} (own : Nat) (code : List (Nat × Nat × Instr)) (hy : plainName y.cls = true) (hcls : y.cls = zcn own) (hck : zchk cc code = true) (hn : y.name = "<init>") (hnL : 1 ≤ nL)
    (body : ∀ (f : Nat → Nat) (CN : (Nat → Nat) → Nat → Nat → ZP), zNR own cc code nL fr lo mc ms (fun _ _ => False) (fun h => h = hI) f CN → CN f 0 0 0 (zarg nL [.ref 0]) [] [.inr (.inl (ci, fs0))]) : ZI y cc nL fr lo mc ms ci fs0 hI := by
  intro l D cA f sz
  refine Met.ofW (cc := cc) (maxL := nL) (ret := none) hy rfl ?_
  intro p e s m args below meth c s₁ B hml hv
  obtain ⟨rfl, hsz, hP, hK, hO⟩ := hv
  subst hsz
  have hx := B.exec
  have hb := B.bytes
  have hr := B.returns
  have hts := atoms_spec (ws := .code y cc nL none :: zt) B.pre
  have hown : s.vm.findClass (zcn own) = some m.cls := hcls ▸ findClass_of_methodNamed B.named
  have hin : meth.name = "<init>" := (name_of_methodNamed B.named B.method).1.trans hn
  rw [show [Value.ref (f 0)] = [Value.ref 0].map (zv f) from rfl, lg_entry_eq]
  refine body f _ ⟨p, l, e, _, s, m, _, below, meth, c, _, D, cA, zB f s.heap.size, ⟨hx, hb, hml, hown, fun w hw => hts w (List.mem_cons_of_mem _ hw)⟩, hK, hO, hck, Nat.le_refl _, Nat.le_refl _, ⟨Nat.le_refl _, Nat.le_refl _⟩, fun q hq => Or.inr hq, fun _ => hin, ?_, ?_, rfl⟩ s.heap [] _ hP zD_1 va_S.rf (zHas_arg hnL)
  · intro ad kc ks pc x ls h1 _ _ _ hd h2
    exact h2.elim
  · intro ad kc ks pc ls h1 hf hc hs hd h2 H locs la hP hD hS hL
    subst h2
    refine W.widen (k := mc) (n := ms) hc hs ?_
    exact W.vret hx hb hr (fun t ht hW => ⟨rfl, ⟨ad, hf, by rw [ht]; exact hP, hD⟩, hS.F ht⟩) hS.2.2 hd
