/-! the law's entry: what the start gives of the classes and the two tables -/
theorem e_arr {s : State} {args : Array Value} {ty : FieldType} (h : (Cond.arrayClass ty).before args s = true) : ∃ cA, ArrOfT s cA ty ∧ s.vm.findClass ("[" ++ ty.toString) = some cA := by
  obtain ⟨cA, kA, comp, h1, h2, h3⟩ := Cond.arrayClass_spec h
  exact ⟨cA, fun n z => ⟨(fun k h => by cases h), kA, h2, comp, h3⟩, h1⟩
theorem e_over {s : State} {args : Array Value} {C : String} (h : (Cond.arrayOver (.object C)).before args s = true) : ∃ cA, ArrOfT s cA (.object C) ∧ va_RA s cA (.object C) := by
  obtain ⟨comp, c, k, h1, -, h3, h4, h5⟩ := Cond.arrayOver_spec h
  exact ⟨c, fun n z => ⟨(fun k h => by cases h), k, h3, comp, h4⟩, k, comp, h3, h4, h1, h5⟩
theorem e_K {s : State} {args : Array Value} (hts : ∀ w ∈ zt, w.before args s = true) (ho : (Cond.arrayOver (.object RX0)).before args s = true) : ∃ (D : va_G) (cA : Nat → ClassId), va_K D vwCl (zT cA) s := by
  obtain ⟨c0, i0, k0⟩ := u_known (C := RX0) (T := TX0) (N := 12) (n := 12) hts zt_X0 (hts (.instantiable RX0 12) (by decide +kernel))
  obtain ⟨c1, i1, k1⟩ := u_known (C := RX1) (T := TX1) (N := 3) (n := 3) hts zt_X1 (hts (.instantiable RX1 3) (by decide +kernel))
  obtain ⟨c2, i2, k2⟩ := u_known (C := RX2) (T := TX2) (N := 2) (n := 2) hts zt_X2 (hts (.instantiable RX2 2) (by decide +kernel))
  obtain ⟨c3, i3, k3⟩ := u_known (C := RX3) (T := TX3) (N := 5) (n := 5) hts zt_X3 (hts (.instantiable RX3 5) (by decide +kernel))
  obtain ⟨c4, i4, k4⟩ := u_known (C := RX4) (T := TX4) (N := 12) (n := 12) hts zt_X4 (hts (.instantiable RX4 12) (by decide +kernel))
  obtain ⟨a0, b0, d0⟩ := e_arr (ty := .int) (hts (.arrayClass .int) (by decide +kernel))
  obtain ⟨a1, b1, d1⟩ := e_arr (ty := .char) (hts (.arrayClass .char) (by decide +kernel))
  obtain ⟨a2, b2, d2⟩ := e_arr (ty := .boolean) (hts (.arrayClass .boolean) (by decide +kernel))
  obtain ⟨a3, b3, d3⟩ := e_over ho
  refine ⟨(fun k => if k = 0 then c0 else if k = 1 then c1 else if k = 2 then c2 else if k = 3 then c3 else c4, fun k => if k = 0 then i0 else if k = 1 then i1 else if k = 2 then i2 else if k = 3 then i3 else i4), fun k => if k = 0 then a0 else if k = 1 then a1 else if k = 2 then a2 else a3, ?_, ?_⟩
  · intro k q hq
    match k, hq with
    | 0, hq => cases hq; exact k0
    | 1, hq => cases hq; exact k1
    | 2, hq => cases hq; exact k2
    | 3, hq => cases hq; exact k3
    | 4, hq => cases hq; exact k4
    | k + 5, hq => simp [vwCl] at hq
  · intro k q hq
    match k, hq with
    | 0, hq => cases hq; exact ⟨b0, d0⟩
    | 1, hq => cases hq; exact ⟨b1, d1⟩
    | 2, hq => cases hq; exact ⟨b2, d2⟩
    | 3, hq => cases hq; exact ⟨b3, d3⟩
    | k + 4, hq => simp [zT] at hq
theorem e_tab {s : State} {args : Array Value} {n : String} {f : Nat → Int32} {A : Nat → Prop} (hl : (Cond.laysStatic "RepealedLaws" n "[I").before args s = true) (hini : (Cond.initialized "RepealedLaws").before args s = true) (harr : (Cond.arrayOf (.static "RepealedLaws" n "[I") .int).before args s = true) (hlen : (Cond.eq (.length (.static "RepealedLaws" n "[I")) (.int 3)).before args s = true) (h0 : (Cond.eq (.elem (.static "RepealedLaws" n "[I") (.int 0)) (.int (f 0))).before args s = true) (h1 : (Cond.eq (.elem (.static "RepealedLaws" n "[I") (.int 1)) (.int (f 1))).before args s = true) (h2 : (Cond.eq (.elem (.static "RepealedLaws" n "[I") (.int 2)) (.int (f 2))).before args s = true) (hA : ∀ a : Nat, a < s.heap.size → ¬ A a) : ∃ t : Nat, va_Z "RepealedLaws" n "[I" (.ref t) A s s.heap ∧ va_T .int t 3 (fun j => .int (f j)) A s s.heap := by
  obtain ⟨t, e1, e2⟩ := va_Tof (N := 3) (f := fun j => .int (f j)) (by decide) harr (va_eqt hlen) (fun j hj => by
    rcases (show j = 0 ∨ j = 1 ∨ j = 2 by omega) with rfl | rfl | rfl
    · exact va_eqt h0
    · exact va_eqt h1
    · exact va_eqt h2) hA
  exact ⟨t, va_Zref hl hini e1 hA, e2⟩
theorem e_Tx {t : Nat} {f g : Nat → Value} {A : Nat → Prop} {U : State} {H : Heap} (h : va_T .int t 3 f A U H) (hg : ∀ j, j < 3 → f j = g j) : va_T .int t 3 g A U H := by
  obtain ⟨cell, h1, h2, h3, h4, h5, h6, h7⟩ := h
  exact ⟨cell, h1, h2, h3, h4, h5, fun j hj => by rw [← hg j hj]; exact h6 j hj, h7⟩
theorem e_E {s : State} {args : Array Value} {A : Nat → Prop} (hts : ∀ w ∈ lw_tbl, w.before args s = true) (hgv : (Jvm.Cond.and given_1 narrow_1).before args s = true) (hA : ∀ a : Nat, a < s.heap.size → ¬ A a) : va_AO RX0 s ∧ ∃ (D : va_G) (cA : Nat → ClassId) (t0 t1 : Nat), ∀ ad : Nat → Nat, ad 1000 = t0 → ad 1001 = t1 → zE D cA ad A s s.heap := by
  have hs := flat_of_before _ hgv
  have ho : (Cond.arrayOver (.object RX0)).before args s = true := hts _ (by decide +kernel)
  have hini : (Cond.initialized "RepealedLaws").before args s = true := hts _ (by decide +kernel)
  obtain ⟨D, cA, hK⟩ := e_K (fun w hw => hts w (zt_in w hw)) ho
  obtain ⟨t0, z0, q0⟩ := e_tab (n := "LEAST_VALUES") (f := fun j => match j with | 0 => 1 | 1 => 1 | _ => 0) (A := A) (hts _ (by decide +kernel)) hini (hs _ (by decide +kernel)) (hs _ (by decide +kernel)) (hs _ (by decide +kernel)) (hs _ (by decide +kernel)) (hs _ (by decide +kernel)) hA
  obtain ⟨t1, z1, q1⟩ := e_tab (n := "GREATEST_VALUES") (f := fun j => match j with | 0 => 5 | 1 => 16 | _ => 9) (A := A) (hts _ (by decide +kernel)) hini (hs _ (by decide +kernel)) (hs _ (by decide +kernel)) (hs _ (by decide +kernel)) (hs _ (by decide +kernel)) (hs _ (by decide +kernel)) hA
  refine ⟨va_AO.of ho, D, cA, t0, t1, fun ad h0 h1 => ⟨hK, ⟨va_Nw.of rfl (hts zn1 (by decide +kernel)), va_Nw.of rfl (hts zn2 (by decide +kernel)), va_Nw.of rfl (hts zn3 (by decide +kernel)), va_Nw.of rfl (hts zn4 (by decide +kernel))⟩, ⟨?_, ?_⟩, ⟨?_, ?_⟩⟩⟩
  · rw [h0]; exact z0
  · rw [h0]
    refine e_Tx q0 (fun j hj => ?_)
    rcases (show j = 0 ∨ j = 1 ∨ j = 2 by omega) with rfl | rfl | rfl <;> rfl
  · rw [h1]; exact z1
  · rw [h1]
    refine e_Tx q1 (fun j hj => ?_)
    rcases (show j = 0 ∨ j = 1 ∨ j = 2 by omega) with rfl | rfl | rfl <;> rfl
