/-! the law's reading of its script -/
def cellv (L : Nat) (xs : Nat → Int32) (i : Nat) : Int32 := if i < L then xs i else nI 2144593345 * (nI i + nI 1487)
/-- the script at the number 1002: its length, what lies in it -/
def LSd (cc : ByteArray) (C : ZP) (L : Nat) (xs : Nat → Int32) : Prop :=
  (∀ (pc : Nat) (ls : List (Option Value)) (st : List Value) (h : List ZC), decode cc pc = .ok (.arraylength, 1) → C (pc + 1) ls (.int (nI L) :: st) h → C pc ls (.ref 1002 :: st) h) ∧
  ∀ (pc : Nat) (ls : List (Option Value)) (st : List Value) (h : List ZC) (i : Nat), i < L → decode cc pc = .ok (.iaload, 1) → C (pc + 1) ls (.int (xs i) :: st) h → C pc ls (.int (nI i) :: .ref 1002 :: st) h
theorem cell_walk {C : ZP} {L : Nat} {xs : Nat → Int32} {i : Nat} (hC0 : zR 5 cL_cell qL_cell 2 0 0 (zR1 (some .int) (some (.int (cellv L xs i))) []) (zR0 (some .int) (some (.int (cellv L xs i))) []) C) (hs : LSd cL_cell C L xs) (hL : L ≤ 260) (hi : i < 1000) : C 0 [some (.ref 1002), some (.int (nI i))] [] [] := by
  refine zgo hC0 0 2 rfl ?_
  refine hs.1 _ _ _ _ (by decide +kernel) ?_
  refine zgo hC0 3 1 rfl ?_
  refine And.intro (fun c => ?_) (fun c => ?_)
  · have hq : ¬ i < L := by
      have := (nI_leI (by omega) (by omega)).mp c
      omega
    refine zgo hC0 8 6 rfl ?_
    exact zret_i (by rw [cellv, if_neg hq]; rfl)
  · have hq : i < L := by
      rcases Nat.lt_or_ge i L with z | z
      · exact z
      · exact absurd (nI_le z (by omega)) c
    refine zgo hC0 4 2 rfl ?_
    refine hs.2 _ _ _ _ i hq (by decide +kernel) ?_
    refine zgo hC0 7 1 rfl ?_
    refine zgo hC0 13 1 rfl ?_
    exact zret_i (by rw [cellv, if_pos hq])
theorem zA_no {ad : Nat → Nat} {q : Nat} (h : zA ad 0 q) : False := by
  obtain ⟨k, hk, -⟩ := h
  exact absurd hk (Nat.not_lt_zero k)
theorem cell_blind {L : Nat} {xs : Nat → Int32} {D : va_G} {cA : Nat → ClassId} {ad : Nat → Nat} {av : List Value} : FrameBlind (va_Pc av (fun U => zE D cA ad (zA ad 0) U U.heap ∧ va_X (ad 1002) L xs U U.heap)) :=
  fun a U g mk q => ⟨q.1, zE.same (u := U) (U := U.calling g mk a) rfl q.2.1, va_X.moved (u := U) (U := U.calling g mk a) (by show U.vm.Alike U.vm; exact Vm.Alike.refl _) q.2.2⟩
set_option maxHeartbeats 1000000 in
theorem cell_met {L : Nat} {xs : Nat → Int32} (hL : L ≤ 260) {i : Nat} (hi : i < 1000) (l : Launch) (D : va_G) (cA : Nat → ClassId) (ad : Nat → Nat) : Met l yL_cell (.code yL_cell cL_cell 2 (some .int) :: zt) { frames := 0, cells := 0, slots := 0, locals := 0 } (va_Pc (([.ref 1002, .int (nI i)] : List Value).map (zv ad)) (fun U => zE D cA ad (zA ad 0) U U.heap ∧ va_X (ad 1002) L xs U U.heap)) (fun _ st oc t => oc = .returned (some (.int (cellv L xs i))) ∧ True ∧ va_F (zA ad 0) st t) 0 0 (zA ad 0) := by
  refine Met.ofW (cc := cL_cell) (maxL := 2) (ret := some .int) rfl rfl ?_
  intro p e s m args below meth c s₁ B hml hv
  obtain ⟨rfl, hK, hX⟩ := hv
  have hx := B.exec
  have hb := B.bytes
  have hr := B.returns
  have hts := atoms_spec (ws := .code yL_cell cL_cell 2 (some .int) :: zt) B.pre
  have hown : s.vm.findClass (zcn 5) = some m.cls := findClass_of_methodNamed B.named
  have hbl : ad 1002 < s.heap.size := by
    obtain ⟨scr, h1, -⟩ := hX
    exact (Array.getElem?_eq_some_iff.mp h1).1
  have hbA : ¬ zA ad 0 (ad 1002) := fun h => zA_no h
  have hP : va_P D vwCl (zW cA ad []) s.heap := fun k q h => by simp [zW] at h
  have hD : va_D (zA ad 0) (zW cA ad []) := ⟨fun i j p q h => by simp [zW] at h, fun k q h => by simp [zW] at h⟩
  rw [lg_entry_eq]
  refine cell_walk (C := Z p l e _ s m _ below meth c _ D cA ad (zA ad 0) 0 0) (L := L) (xs := xs) (i := i) ⟨p, l, e, _, s, m, _, below, meth, c, _, D, cA, ad, zA ad 0, 0, 0, ⟨hx, hb, hml, hown, fun w hw => hts w (List.mem_cons_of_mem _ hw)⟩, hK, kL_cell, Nat.le_refl _, Nat.le_refl _, ⟨Nat.zero_le _, Nat.zero_le _⟩, ?_, ?_, rfl⟩ ⟨?_, ?_⟩ hL hi s.heap [] _ hP hD va_S.rf (zHas_arg (ad := ad) (vs := [.ref 1002, .int (nI i)]) (nL := 2) (Nat.le_refl 2))
  · intro pc x ls h1 hd h2 H locs la hP hD hS hL
    obtain ⟨hn, h3, rfl⟩ := h2
    have h4 : cellv L xs i = x := by
      have := Option.some.inj h3
      exact Value.int.inj this
    exact W.zret (v := x) hx hb hr hn (fun t ht hW => ⟨by rw [h4], trivial, hS.F ht⟩) hS.2.2 hd
  · intro pc ls h1 hd h2 H locs la hP hD hS hL
    exact h2.elim
  · intro pc ls st h hd k H locs la hP hD hS hL2
    exact va_slen hx hb hX hbl hbA hS hd (k H locs la hP hD hS hL2)
  · intro pc ls st h j hj hd k H locs la hP hD hS hL2
    refine va_sld hx hb hX hbl hbA hS (vp_in_nI hj (by omega)) hd ?_
    rw [nI_clamp (show j < 2 ^ 31 by omega)]
    exact k H locs la hP hD hS hL2
section ZCELL
variable {p : Program} {l : Launch} {e : Env} {R : Room} {s : State} {m : MethodId} {args : Array Value} {below : List Frame} {meth : Method} {c : Code} {Q : State → Prop}
variable {D : va_G} {cA : Nat → ClassId} {ad : Nat → Nat} {A : Nat → Prop} {kc ks L : Nat} {xs : Nat → Int32}
set_option maxHeartbeats 1000000 in
theorem zcell (F : CallFix p m c cL_law 5 s args zt (zcn 5)) (hE : zE D cA ad A s s.heap) (hL : L ≤ 260) (hX : va_X (ad 1002) L xs s s.heap) (hbl : ad 1002 < s.heap.size) (hbA : ¬ A (ad 1002)) (hfr : 1 ≤ R.frames) (hlo : 21 ≤ R.locals) (hkc : kc ≤ R.cells) (hks : ks ≤ R.slots) {pc : Nat} {ls : List (Option Value)} {rest : List Value} {h : List ZC} {i : Nat} (hi : i < 1000) (hls : ls.length = 5) (hcat : (rest.map fun v => v.category).sum ≤ 8) (hd : decode cL_law pc = .ok (.invokestatic 107, 3))
    (k : Z p l e R s m args below meth c Q D cA ad A kc ks (pc + 3) ls (.int (cellv L xs i) :: rest) h) : Z p l e R s m args below meth c Q D cA ad A kc ks pc ls (.int (nI i) :: .ref 1002 :: rest) h := by
  obtain ⟨c1, c3, c4, c5⟩ := vL_cell
  intro H locs la hP hD hS hL2
  have hst : (Value.int (nI i) :: .ref 1002 :: rest).map (zv ad) = (([.ref 1002, .int (nI i)] : List Value).map (zv ad)).reverse ++ rest.map (zv ad) := by simp
  rw [hst]
  have hG : GoodIn zt (va_wsS (zcn 5) 107 yL_cell (.code yL_cell cL_cell 2 (some .int) :: zt)) := zt_good2 (fun w hw => by
    unfold va_wsS at hw
    rcases List.mem_append.mp hw with hw | hw
    · simp only [List.mem_cons, List.not_mem_nil, or_false] at hw
      rcases hw with rfl | rfl | rfl
      · exact lk5_107
      · exact c1
      · exact c3
    · rcases List.mem_cons.mp hw with rfl | hw
      · exact c4
      · exact hw)
  refine z_core (A1 := zA ad 0) (PP := fun _ => True) (rv := some (.int (cellv L xs i))) (va_runS (As := ([.ref 1002, .int (nI i)] : List Value).map (zv ad)) (rest := rest.map (zv ad)) F (cell_met hL hi l D cA ad) (va_cwS 2 F.2.2.2.2 hG rfl rfl rfl c5 ⟨hfr, hlo⟩) ⟨cell_blind, fun U hU hW => ⟨rfl, zE.to hE hS hU hW (fun q z => (zA_no z).elim) rfl rfl, (va_X.moved hW.alike hX).kept (by rw [hU]; exact hS.2.1 _ hbl hbA)⟩⟩ rfl rfl (by rw [← hls]; exact hL2.1) rfl (lv_room (by rw [zcat_eq]; exact hcat)) hd ⟨hkc, hks⟩) (fun st oc t hq => hq) hS (fun q z => (zA_no z).elim) (fun q z => (zA_no z).elim) (fun H1 locs1 _ hk1 hS1 => ?_)
  exact k H1 locs1 la (fun i q hq => (hP i q hq).kept (hk1 _ (hP i q hq).lt (fun z => zA_no z))) hD hS1 hL2
end ZCELL
