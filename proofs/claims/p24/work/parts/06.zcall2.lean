/-! THE Z LOGIC, calls: over the same cells, or over a part of them under other numbers -/
theorem zcat_eq (ad : Nat → Nat) (r : List Value) : ((r.map (zv ad)).map fun v => v.category).sum = (r.map fun v => v.category).sum := by
  rw [List.map_map]
  congr 1
  apply List.map_congr_left
  intro v _
  cases v <;> rfl
/-- what the tables say of a method that is called -/
def zcV (y : MethodName) (cc : ByteArray) (nL : Nat) (ret : Option FieldType) (n : Nat) : Prop :=
  Cond.instanceMethod y ∈ zt ∧ Cond.selects y.cls y y ∈ zt ∧ Cond.initialized y.cls ∈ zt ∧ Cond.code y cc nL ret ∈ zt ∧ (y.cls ≠ "java/lang/invoke/MethodHandle" ∧ y.cls ≠ "java/lang/invoke/VarHandle" ∧ (parseMethodDescriptor y.desc).map (fun d => d.parameters.length) = some n)
def zcS (y : MethodName) (cc : ByteArray) (nL : Nat) (ret : Option FieldType) (n : Nat) : Prop :=
  Cond.static y ∈ zt ∧ Cond.initialized y.cls ∈ zt ∧ Cond.code y cc nL ret ∈ zt ∧ (y.cls ≠ "java/lang/invoke/MethodHandle" ∧ y.cls ≠ "java/lang/invoke/VarHandle" ∧ (parseMethodDescriptor y.desc).map (fun d => d.parameters.length) = some n)
def zrc (h : List ZC) (b : Nat) : Option String := match zg h b with
  | some (.inr (.inl x)) => (match Nat.ble (x.1 + 1) 5 with
    | true => some (zcn x.1)
    | false => none)
  | _ => none
theorem zrc_inv {h : List ZC} {b : Nat} {n : String} (hz : zrc h b = some n) : ∃ ci fs, h[b]? = some (.inr (.inl (ci, fs))) ∧ ci < 5 ∧ zcn ci = n := by
  unfold zrc at hz
  split at hz
  · rename_i x e
    split at hz
    · rename_i hb
      rw [zg_eq] at e
      exact ⟨x.1, x.2, e, Nat.le_of_ble_eq_true hb, Option.some.inj hz⟩
    · cases hz
  · cases hz
section ZC1
variable {p : Program} {l : Launch} {e : Env} {R : Room} {s : State} {m : MethodId} {args : Array Value} {below : List Frame} {meth : Method} {c : Code} {Q : State → Prop}
variable {D : va_G} {cA : Nat → ClassId} {ad : Nat → Nat} {A : Nat → Prop} {kc ks : Nat} {cc : ByteArray} {nL own : Nat} {H : Heap} {locs : List Loc}
/-- behind any call -/
theorem z_core {pc : Nat} {la : Array Slot} {st0 rest : List Value} {Qa : State → Outcome → State → Prop} {free : Addr → Prop} {rv : Option Value} {PP : Heap → Prop} {A1 : Nat → Prop}
    (hr : va_Run p l e R s m args below meth c H locs kc ks 0 0 (F0 m pc la st0) rest Qa free)
    (hQ : ∀ st oc t, Qa st oc t → oc = .returned rv ∧ PP t.heap ∧ va_F A1 st t) (hS : va_S A s.heap H locs) (hA : ∀ q, A1 q → A q) (hf : ∀ q, free q → A q)
    (kk : ∀ (H1 : Heap) (locs1 : List Loc), PP H1 → (∀ q : Nat, q < H.size → ¬ A1 q → H1[q]? = H[q]?) → va_S A s.heap H1 locs1 → W p l e R s m args below meth c H1 locs1 kc ks Q (F0 m (pc + 3) la (rv.toList ++ rest))) :
    W p l e R s m args below meth c H locs kc ks Q (F0 m pc la st0) := by
  intro T hT X
  obtain ⟨v, st₀, t, T', L, h0, X', hL, e1, e2, hq, st⟩ := hr T hT X
  obtain ⟨hv, hP, hz, hk⟩ := hQ _ _ _ hq
  cases hv
  rw [h0] at hz hk
  obtain ⟨t2, a1, b1⟩ := kk T'.heap (locs ++ L) (by rw [e1]; exact hP) (fun q h1 h2 => by rw [e1]; exact hk q h1 h2)
    ⟨Nat.le_trans hS.1 (by rw [e1]; exact hz), fun q h1 h2 => by rw [e1, hk q (Nat.lt_of_lt_of_le h1 hS.1) (fun z => h2 (hA q z))]; exact hS.2.1 q h1 h2, fun q hq => by
      rcases List.mem_append.mp hq with h | h
      · exact hS.2.2 q h
      · exact hf _ (hL q h)⟩ T' rfl X'
  exact ⟨t2, st t2 a1, b1⟩
end ZC1
theorem zPc_blind {D : va_G} {cA : Nat → ClassId} {ad : Nat → Nat} {h : List ZC} {av : List Value} : FrameBlind (va_Pc av (fun U => va_P D vwCl (zW cA ad h) U.heap ∧ zE D cA ad (zA ad h.length) U U.heap ∧ va_D (fun _ => True) (zW cA ad h))) :=
  fun a U g mk q => ⟨q.1, q.2.1, zE.same (u := U) (U := U.calling g mk a) rfl q.2.2.1, q.2.2.2⟩
theorem zt_good2 {ws : List Cond} (h : ∀ w ∈ ws, w ∈ zt) : GoodIn zt ws := fun w hw => ⟨h w hw, good_of_word (zt_good w (h w hw))⟩
section ZC2
variable {own : Nat} {cc : ByteArray} {code : List (Nat × Nat × Instr)} {nL fr lo : Nat} {R1 : Int32 → List ZC → Prop} {R0 : List ZC → Prop} {C : ZP}
variable {y : MethodName} {ccc : ByteArray} {nLc : Nat} {ret : Option FieldType} {n frc loc idx : Nat} {As rest : List Value} {h h2 : List ZC} {b pc : Nat} {rv : Option Value} {ls : List (Option Value)}
theorem z_tail {ad : Nat → Nat} : (rv.map (zv ad)).toList ++ rest.map (zv ad) = (rv.toList ++ rest).map (zv ad) := by cases rv <;> simp
theorem zcallV (hC : zR own cc code nL fr lo R1 R0 C) (hM : ZM y ccc nLc ret frc loc (.ref b :: As) h rv h2) (hc : zcV y ccc nLc ret n) (hl : Cond.methodLink (zcn own) idx y ∈ zt) (hd : decode cc pc = .ok (.invokevirtual idx, 3)) (hn : As.length = n) (hls : ls.length = nL) (hrc : zrc h b = some y.cls) (hfr : frc + 1 ≤ fr) (hlo : 8 + (nLc + 11) + loc ≤ lo) (hcat : (rest.map fun v => v.category).sum ≤ 8)
    (k : C (pc + 3) ls (rv.toList ++ rest) h2) : C pc ls (As.reverse ++ .ref b :: rest) h := by
  obtain ⟨p, l, e, R, s, m, args, below, meth, c, Q, D, cA, ad, A, kc, ks, F, hK, hck, hfr2, hlo2, hcr, hR1, hR0, rfl⟩ := hC
  obtain ⟨c1, c2, c3, c4, c5⟩ := hc
  obtain ⟨ci, fs, g1, g2, g3⟩ := zrc_inv hrc
  intro H locs la hP hD hS hL
  have hst : (As.reverse ++ .ref b :: rest).map (zv ad) = (As.map (zv ad)).reverse ++ .ref (ad b) :: rest.map (zv ad) := by simp [zv]
  rw [hst]
  have hG : GoodIn zt (wsV (zcn own) idx y.cls y (.code y ccc nLc ret :: zt)) := zt_good2 (fun w hw => by
    unfold wsV at hw
    rcases List.mem_append.mp hw with hw | hw
    · simp only [List.mem_cons, List.not_mem_nil, or_false] at hw
      rcases hw with rfl | rfl | rfl | rfl
      · exact hl
      · exact c1
      · exact c2
      · exact c3
    · rcases List.mem_cons.mp hw with rfl | hw
      · exact c4
      · exact hw)
  refine z_core (A1 := zA ad h.length) (PP := va_P D vwCl (zW cA ad h2)) (va_runV (As := As.map (zv ad)) (rest := rest.map (zv ad)) F (hM.2 l D cA ad) (cwV n F.2.2.2.2 hG rfl rfl rfl ⟨rfl, c5⟩ ⟨by simpa using Nat.le_trans hfr hfr2, by simpa using Nat.le_trans hlo hlo2⟩) ⟨zPc_blind, ?_, fun U hU hW => ⟨rfl, by rw [hU]; exact hP, zE.to hK hS hU hW (zA_sub hD) rfl rfl, hD.weaken (fun _ _ _ _ => trivial)⟩⟩ rfl (by rw [List.length_map]; exact hn) (by rw [← hls]; exact hL.1) rfl (lv_room (by rw [zcat_eq]; exact hcat)) hd hcr) (fun st oc t hq => hq) hS (zA_sub hD) (zA_sub hD) (fun H1 locs1 hP1 hk1 hS1 => ?_)
  · have hv := va_recv hK.1 hP (zc_cl ci g2) (zW_get g1)
    rw [g3] at hv
    exact hv
  · rw [z_tail]
    exact k H1 locs1 la hP1 (zD_len hM.1 hD) hS1 hL
theorem zcallS (hC : zR own cc code nL fr lo R1 R0 C) (hM : ZM y ccc nLc ret frc loc As h rv h2) (hc : zcS y ccc nLc ret n) (hl : Cond.methodLink (zcn own) idx y ∈ zt) (hd : decode cc pc = .ok (.invokestatic idx, 3)) (hn : As.length = n) (hls : ls.length = nL) (hfr : frc + 1 ≤ fr) (hlo : 8 + (nLc + 11) + loc ≤ lo) (hcat : (rest.map fun v => v.category).sum ≤ 8)
    (k : C (pc + 3) ls (rv.toList ++ rest) h2) : C pc ls (As.reverse ++ rest) h := by
  obtain ⟨p, l, e, R, s, m, args, below, meth, c, Q, D, cA, ad, A, kc, ks, F, hK, hck, hfr2, hlo2, hcr, hR1, hR0, rfl⟩ := hC
  obtain ⟨c1, c3, c4, c5⟩ := hc
  intro H locs la hP hD hS hL
  have hst : (As.reverse ++ rest).map (zv ad) = (As.map (zv ad)).reverse ++ rest.map (zv ad) := by simp
  rw [hst]
  have hG : GoodIn zt (va_wsS (zcn own) idx y (.code y ccc nLc ret :: zt)) := zt_good2 (fun w hw => by
    unfold va_wsS at hw
    rcases List.mem_append.mp hw with hw | hw
    · simp only [List.mem_cons, List.not_mem_nil, or_false] at hw
      rcases hw with rfl | rfl | rfl
      · exact hl
      · exact c1
      · exact c3
    · rcases List.mem_cons.mp hw with rfl | hw
      · exact c4
      · exact hw)
  refine z_core (A1 := zA ad h.length) (PP := va_P D vwCl (zW cA ad h2)) (va_runS (As := As.map (zv ad)) (rest := rest.map (zv ad)) F (hM.2 l D cA ad) (va_cwS n F.2.2.2.2 hG rfl rfl rfl c5 ⟨by simpa using Nat.le_trans hfr hfr2, by simpa using Nat.le_trans hlo hlo2⟩) ⟨zPc_blind, fun U hU hW => ⟨rfl, by rw [hU]; exact hP, zE.to hK hS hU hW (zA_sub hD) rfl rfl, hD.weaken (fun _ _ _ _ => trivial)⟩⟩ rfl (by rw [List.length_map]; exact hn) (by rw [← hls]; exact hL.1) rfl (lv_room (by rw [zcat_eq]; exact hcat)) hd hcr) (fun st oc t hq => hq) hS (zA_sub hD) (zA_sub hD) (fun H1 locs1 hP1 hk1 hS1 => ?_)
  rw [z_tail]
  exact k H1 locs1 la hP1 (zD_len hM.1 hD) hS1 hL
theorem zE_nest {D : va_G} {cA : Nat → ClassId} {ad : Nat → Nat} {A : Nat → Prop} {U : State} {H : Heap} {w : Cond} (h : zE D cA ad A U H) (hw : w ∈ [zn1, zn2, zn3]) : va_Nw w U := by
  simp only [List.mem_cons, List.not_mem_nil, or_false] at hw
  rcases hw with rfl | rfl | rfl
  · exact h.2.1.1
  · exact h.2.1.2.1
  · exact h.2.1.2.2.1
/-- a static method of a nest mate that is private there -/
theorem zcallN (hC : zR own cc code nL fr lo R1 R0 C) (hM : ZM y ccc nLc ret frc loc As h rv h2) (hc : zcS y ccc nLc ret n) (hl : Cond.methodLinkNest (zcn own) idx y "RepealedLaws" ∈ [zn1, zn2, zn3]) (hd : decode cc pc = .ok (.invokestatic idx, 3)) (hn : As.length = n) (hls : ls.length = nL) (hfr : frc + 1 ≤ fr) (hlo : 8 + (nLc + 11) + loc ≤ lo) (hcat : (rest.map fun v => v.category).sum ≤ 8)
    (k : C (pc + 3) ls (rv.toList ++ rest) h2) : C pc ls (As.reverse ++ rest) h := by
  obtain ⟨p, l, e, R, s, m, args, below, meth, c, Q, D, cA, ad, A, kc, ks, F, hK, hck, hfr2, hlo2, hcr, hR1, hR0, rfl⟩ := hC
  obtain ⟨c1, c3, c4, c5⟩ := hc
  intro H locs la hP hD hS hL
  have hst : (As.reverse ++ rest).map (zv ad) = (As.map (zv ad)).reverse ++ rest.map (zv ad) := by simp
  rw [hst]
  have hG : GoodIn zt (.code y ccc nLc ret :: zt) := zt_good2 (fun w hw => by
    rcases List.mem_cons.mp hw with rfl | hw
    · exact c4
    · exact hw)
  refine z_core (A1 := zA ad h.length) (PP := va_P D vwCl (zW cA ad h2)) (va_runSN (As := As.map (zv ad)) (rest := rest.map (zv ad)) F (hM.2 l D cA ad) ⟨va_cnB n F.2.2.2.2 hG rfl rfl rfl (zE_nest hK hl) (F.2.2.2.2 _ c3) c5 ⟨by simpa using Nat.le_trans hfr hfr2, by simpa using Nat.le_trans hlo hlo2⟩, F.2.2.2.2 _ c1, trivial⟩ ⟨zPc_blind, fun U hU hW => ⟨rfl, by rw [hU]; exact hP, zE.to hK hS hU hW (zA_sub hD) rfl rfl, hD.weaken (fun _ _ _ _ => trivial)⟩⟩ rfl (by rw [List.length_map]; exact hn) (by rw [← hls]; exact hL.1) rfl (lv_room (by rw [zcat_eq]; exact hcat)) hd hcr) (fun st oc t hq => hq) hS (zA_sub hD) (zA_sub hD) (fun H1 locs1 hP1 hk1 hS1 => ?_)
  rw [z_tail]
  exact k H1 locs1 la hP1 (zD_len hM.1 hD) hS1 hL
end ZC2
/-! a part of the cells, under other numbers: the callee's cell i is the caller's cell σ i -/
def zsi (sg : List Nat) (i : Nat) : Nat := match zg sg i with
  | some j => j
  | none => i
def zrv (sg : List Nat) (v : Value) : Value := match v with
  | .ref i => .ref (zsi sg i)
  | v => v
def zrn (sg : List Nat) (c : ZC) : ZC := match c with
  | .inl x => .inl x
  | .inr (.inl x) => .inr (.inl (x.1, x.2.map (zrv sg)))
  | .inr (.inr x) => .inr (.inr (x.1, fun j => (x.2 j).map (zsi sg)))
def zad (ad : Nat → Nat) (sg : List Nat) : Nat → Nat := fun i => ad (zsi sg i)
theorem zv_rv (ad : Nat → Nat) (sg : List Nat) (v : Value) : zv ad (zrv sg v) = zv (zad ad sg) v := by cases v <;> rfl
theorem zce_rn (cA : Nat → ClassId) (ad : Nat → Nat) (sg : List Nat) (c : ZC) : zce cA ad (zrn sg c) = zce cA (zad ad sg) c := by
  obtain x | x | x := c
  · rfl
  · simp only [zce, zrn, List.map_map]
    congr 2
    apply List.map_congr_left
    intro v _
    exact zv_rv ad sg v
  · simp only [zce, zrn, Option.map_map]
    rfl
/-- the caller's cells at sg are the callee's hc -/
def zsub (sg0 : List Nat) (h : List ZC) : List Nat → List ZC → Prop
  | [], [] => True
  | i :: sg, c :: hc => zg h i = some (zrn sg0 c) ∧ zsub sg0 h sg hc
  | _, _ => False
theorem zsub_get {sg0 : List Nat} {h : List ZC} : ∀ (sg : List Nat) (hc : List ZC), zsub sg0 h sg hc → ∀ (i : Nat) (c : ZC), hc[i]? = some c → ∃ j, sg[i]? = some j ∧ h[j]? = some (zrn sg0 c)
  | [], [], _, i, c, hi => by simp at hi
  | j :: sg, d :: hc, hq, 0, c, hi => by
    simp at hi
    subst hi
    exact ⟨j, rfl, by rw [← zg_eq]; exact hq.1⟩
  | j :: sg, d :: hc, hq, i + 1, c, hi => by
    simp only [List.getElem?_cons_succ] at hi ⊢
    exact zsub_get sg hc hq.2 i c hi
  | [], d :: hc, hq, i, c, hi => hq.elim
  | j :: sg, [], hq, i, c, hi => hq.elim
theorem zsub_len {sg0 : List Nat} {h : List ZC} : ∀ (sg : List Nat) (hc : List ZC), zsub sg0 h sg hc → sg.length = hc.length
  | [], [], _ => rfl
  | j :: sg, d :: hc, hq => by simp [zsub_len sg hc hq.2]
  | [], d :: hc, hq => hq.elim
  | j :: sg, [], hq => hq.elim
def zpt : List Nat → List ZC → List ZC → List ZC
  | i :: sg, c :: cs, h => zpt sg cs (h.set i c)
  | _, _, h => h
theorem zpt_len : ∀ (sg : List Nat) (cs h : List ZC), (zpt sg cs h).length = h.length
  | [], cs, h => rfl
  | i :: sg, [], h => rfl
  | i :: sg, c :: cs, h => by simp [zpt, zpt_len sg cs]
theorem zpt_get : ∀ (sg : List Nat) (cs h : List ZC) (j : Nat) (d : ZC), (zpt sg cs h)[j]? = some d → (∃ i : Nat, sg[i]? = some j ∧ cs[i]? = some d) ∨ (h[j]? = some d ∧ ∀ i : Nat, i < cs.length → ¬ sg[i]? = some j)
  | [], cs, h, j, d, hd => Or.inr ⟨hd, fun i _ hi => by simp at hi⟩
  | a :: sg, [], h, j, d, hd => Or.inr ⟨hd, fun i hl => by simp at hl⟩
  | a :: sg, c :: cs, h, j, d, hd => by
    rcases zpt_get sg cs (h.set a c) j d hd with ⟨i, h1, h2⟩ | ⟨h1, h2⟩
    · exact Or.inl ⟨i + 1, by simpa using h1, by simpa using h2⟩
    · by_cases e : a = j
      · subst e
        have hl : a < (h.set a c).length := (List.getElem?_eq_some_iff.mp h1).1
        rw [List.getElem?_set_self (by simpa using hl)] at h1
        exact Or.inl ⟨0, rfl, by simpa using h1⟩
      · rw [List.getElem?_set_ne e] at h1
        refine Or.inr ⟨h1, fun i hl hi => ?_⟩
        cases i with
        | zero => simp at hi; exact e hi
        | succ i => exact h2 i (by simpa using hl) (by simpa using hi)
theorem zsi_get {sg : List Nat} {i j : Nat} (h : sg[i]? = some j) : zsi sg i = j := by
  unfold zsi
  rw [zg_eq, h]
theorem zsi_big {sg : List Nat} {i : Nat} (h : sg.length ≤ 1000) (hi : 1000 ≤ i) : zsi sg i = i := by
  unfold zsi
  rw [zg_eq, List.getElem?_eq_none (by omega)]
theorem z_sub_P {D : va_G} {cA : Nat → ClassId} {ad : Nat → Nat} {sg : List Nat} {h hc : List ZC} {H : Heap} (hq : zsub sg h sg hc) (hP : va_P D vwCl (zW cA ad h) H) : va_P D vwCl (zW cA (zad ad sg) hc) H := by
  intro k q hk
  obtain ⟨c, hc1, rfl⟩ := zW_inv hk
  obtain ⟨j, h1, h2⟩ := zsub_get sg hc hq k c hc1
  have h3 := hP j _ (zW_get h2)
  rw [zce_rn] at h3
  have e : zad ad sg k = ad j := by unfold zad; rw [zsi_get h1]
  rw [e]
  exact h3
theorem z_sub_D {cA : Nat → ClassId} {ad : Nat → Nat} {A : Nat → Prop} {sg : List Nat} {h hc : List ZC} (hq : zsub sg h sg hc) (hn : va_nd sg = true) (hD : va_D A (zW cA ad h)) : va_D A (zW cA (zad ad sg) hc) := by
  refine ⟨fun i j p q hi hj hpq => ?_, fun k q hk => ?_⟩
  · obtain ⟨c, h1, rfl⟩ := zW_inv hi
    obtain ⟨d, h2, rfl⟩ := zW_inv hj
    obtain ⟨i', a1, a2⟩ := zsub_get sg hc hq i c h1
    obtain ⟨j', b1, b2⟩ := zsub_get sg hc hq j d h2
    have e : ad i' = ad j' := by
      have := hpq
      simp only [zad, zsi_get a1, zsi_get b1] at this
      exact this
    have e2 := hD.1 i' j' _ _ (zW_get a2) (zW_get b2) e
    subst e2
    exact va_nd_inj sg hn i j i' a1 b1
  · obtain ⟨c, h1, rfl⟩ := zW_inv hk
    obtain ⟨i', a1, a2⟩ := zsub_get sg hc hq k c h1
    have e : zad ad sg k = ad i' := by unfold zad; rw [zsi_get a1]
    show A (zad ad sg k)
    rw [e]
    exact hD.2 i' _ (zW_get a2)
theorem z_back_P {D : va_G} {cA : Nat → ClassId} {ad : Nat → Nat} {A : Nat → Prop} {sg : List Nat} {h hc hc2 : List ZC} {H H1 : Heap} (hq : zsub sg h sg hc) (hl : hc2.length = hc.length) (hP : va_P D vwCl (zW cA ad h) H) (hD : va_D A (zW cA ad h)) (hP1 : va_P D vwCl (zW cA (zad ad sg) hc2) H1) (hk1 : ∀ q : Nat, q < H.size → ¬ zA (zad ad sg) hc.length q → H1[q]? = H[q]?) : va_P D vwCl (zW cA ad (zpt sg (hc2.map (zrn sg)) h)) H1 := by
  intro k q hk
  obtain ⟨d, h1, rfl⟩ := zW_inv hk
  rcases zpt_get _ _ _ _ _ h1 with ⟨i, a1, a2⟩ | ⟨a1, a2⟩
  · rw [List.getElem?_map] at a2
    obtain ⟨c, c1, rfl⟩ := Option.map_eq_some_iff.mp a2
    have h3 := hP1 i _ (zW_get c1)
    rw [zce_rn]
    have e : zad ad sg i = ad k := by unfold zad; rw [zsi_get a1]
    rw [e] at h3
    exact h3
  · have h3 := hP k _ (zW_get a1)
    refine h3.kept (hk1 _ h3.lt ?_)
    rintro ⟨i, i1, i2⟩
    have hlen := zsub_len sg hc hq
    have hi : sg[i]? = some sg[i] := List.getElem?_eq_getElem (by omega)
    have hci : hc[i]? = some hc[i] := List.getElem?_eq_getElem i1
    obtain ⟨j, b1, b2⟩ := zsub_get sg hc hq i _ hci
    have e : ad k = ad j := by
      have := i2
      simp only [zad, zsi_get b1] at this
      exact this
    have e2 := hD.1 k j _ _ (zW_get a1) (zW_get b2) e
    subst e2
    exact a2 i (by rw [List.length_map, hl]; exact i1) b1
section ZC3
variable {own : Nat} {cc : ByteArray} {code : List (Nat × Nat × Instr)} {nL fr lo : Nat} {R1 : Int32 → List ZC → Prop} {R0 : List ZC → Prop} {C : ZP}
variable {y : MethodName} {ccc : ByteArray} {nLc : Nat} {ret : Option FieldType} {n frc loc idx : Nat} {As rest : List Value} {h hx hx2 : List ZC} {b pc : Nat} {rv : Option Value} {ls : List (Option Value)}
theorem zcallVs (sg : List Nat) (hC : zR own cc code nL fr lo R1 R0 C) (hM : ZM y ccc nLc ret frc loc (.ref b :: As) hx rv hx2) (hq : zsub sg h sg hx) (hnd : va_nd sg = true) (hsz : sg.length ≤ 1000) (hc : zcV y ccc nLc ret n) (hl : Cond.methodLink (zcn own) idx y ∈ zt) (hd : decode cc pc = .ok (.invokevirtual idx, 3)) (hn : As.length = n) (hls : ls.length = nL) (hrc : zrc hx b = some y.cls) (hfr : frc + 1 ≤ fr) (hlo : 8 + (nLc + 11) + loc ≤ lo) (hcat : (rest.map fun v => v.category).sum ≤ 8)
    (k : C (pc + 3) ls ((rv.map (zrv sg)).toList ++ rest) (zpt sg (hx2.map (zrn sg)) h)) : C pc ls ((As.map (zrv sg)).reverse ++ .ref (zsi sg b) :: rest) h := by
  obtain ⟨p, l, e, R, s, m, args, below, meth, c, Q, D, cA, ad, A, kc, ks, F, hK, hck, hfr2, hlo2, hcr, hR1, hR0, rfl⟩ := hC
  obtain ⟨c1, c2, c3, c4, c5⟩ := hc
  obtain ⟨ci, fs, g1, g2, g3⟩ := zrc_inv hrc
  intro H locs la hP hD hS hL
  have hst : ((As.map (zrv sg)).reverse ++ .ref (zsi sg b) :: rest).map (zv ad) = (As.map (zv (zad ad sg))).reverse ++ .ref (zad ad sg b) :: rest.map (zv ad) := by
    simp only [List.map_append, List.map_reverse, List.map_map, List.map_cons]
    congr 2
    apply List.map_congr_left
    intro v _
    exact zv_rv ad sg v
  rw [hst]
  have hG : GoodIn zt (wsV (zcn own) idx y.cls y (.code y ccc nLc ret :: zt)) := zt_good2 (fun w hw => by
    unfold wsV at hw
    rcases List.mem_append.mp hw with hw | hw
    · simp only [List.mem_cons, List.not_mem_nil, or_false] at hw
      rcases hw with rfl | rfl | rfl | rfl
      · exact hl
      · exact c1
      · exact c2
      · exact c3
    · rcases List.mem_cons.mp hw with rfl | hw
      · exact c4
      · exact hw)
  have hPs := z_sub_P hq hP
  have hDs := z_sub_D hq hnd hD
  refine z_core (A1 := zA (zad ad sg) hx.length) (PP := va_P D vwCl (zW cA (zad ad sg) hx2)) (va_runV (As := As.map (zv (zad ad sg))) (rest := rest.map (zv ad)) F (hM.2 l D cA (zad ad sg)) (cwV n F.2.2.2.2 hG rfl rfl rfl ⟨rfl, c5⟩ ⟨by simpa using Nat.le_trans hfr hfr2, by simpa using Nat.le_trans hlo hlo2⟩) ⟨zPc_blind, ?_, fun U hU hW => ⟨rfl, by rw [hU]; exact hPs, zE.to hK hS hU hW (zA_sub hDs) (by unfold zad; rw [zsi_big hsz (by omega)]) (by unfold zad; rw [zsi_big hsz (by omega)]), hDs.weaken (fun _ _ _ _ => trivial)⟩⟩ rfl (by rw [List.length_map]; exact hn) (by rw [← hls]; exact hL.1) rfl (lv_room (by rw [zcat_eq]; exact hcat)) hd hcr) (fun st oc t hq => hq) hS (zA_sub hDs) (zA_sub hDs) (fun H1 locs1 hP1 hk1 hS1 => ?_)
  · have hv := va_recv hK.1 hPs (zc_cl ci g2) (zW_get g1)
    rw [g3] at hv
    exact hv
  · have e : (rv.map (zv (zad ad sg))).toList ++ rest.map (zv ad) = ((rv.map (zrv sg)).toList ++ rest).map (zv ad) := by
      cases rv <;> simp [zv_rv]
    rw [e]
    exact k H1 locs1 la (z_back_P hq hM.1 hP hD hP1 hk1) (zD_len (zpt_len _ _ _) hD) hS1 hL
/-- System.arraycopy between arrays of ints -/
theorem zcopy (hC : zR own cc code nL fr lo R1 R0 C) (hl : Cond.methodLink (zcn own) idx arraycopyName ∈ zt) (hd : decode cc pc = .ok (.invokestatic idx, 3)) (hls : ls.length = nL) {a0 a1 n0 n1 : Nat} {f g : Nat → Int32} (h0 : zg h a0 = some (.inl (0, n0, f))) (h1 : zg h a1 = some (.inl (0, n1, g))) {N : Nat} (h2 : N ≤ n0) (h3 : N ≤ n1) (hN : N < 2 ^ 31) (hfr : 1 ≤ fr) (hlo : (rest.map fun v => v.category).sum + (nativeFrameWords "java/lang/System" "arraycopy" 5 + 11) ≤ lo)
    (k : C (pc + 3) ls rest (h.set a1 (.inl (0, n1, va_cpy f g 0 0 N)))) : C pc ls (.int (nI N) :: .int (nI 0) :: .ref a1 :: .int (nI 0) :: .ref a0 :: rest) h := by
  obtain ⟨p, l, e, R, s, m, args, below, meth, c, Q, D, cA, ad, A, kc, ks, F, hK, hck, hfr2, hlo2, hcr, hR1, hR0, rfl⟩ := hC
  rw [zg_eq] at h0 h1
  intro H locs la hP hD hS hL
  have w1 : Cond.native arraycopyName ∈ zt := by decide +kernel
  have w2 : Cond.static arraycopyName ∈ zt := by decide +kernel
  have w3 : Cond.initialized "java/lang/System" ∈ zt := by decide +kernel
  have z0 : (nI 0).toNatClampNeg = 0 := rfl
  have zN : (nI N).toNatClampNeg = N := nI_clamp hN
  refine va_copyi F.1 F.2.1 (by rw [F.2.2.1, ← hls]; exact hL.1.symm) F.2.2.2.1 (F.2.2.2.2 _ hl) (F.2.2.2.2 _ w1) (F.2.2.2.2 _ w2) (F.2.2.2.2 _ w3) hK.1 hP hD hS a0 a1 0 0 (zW_get h0) (zW_get h1) rfl rfl rfl (nI_pos (by omega)) (nI_pos (by omega)) (nI_pos hN) (by rw [z0, zN]; show 0 + N ≤ n0; omega) (by rw [z0, zN]; show 0 + N ≤ n1; omega) (fun _ _ => rfl) (Nat.le_trans hfr hfr2) (by rw [zcat_eq]; exact Nat.le_trans hlo hlo2) hd (fun H1 locs1 hP1 hD1 hS1 => ?_)
  rw [z0, zN] at hP1 hD1
  have e1 : (zW cA ad h).set a1 (ad a1, .inl (cA 0, n1, .inl (va_cpy f g 0 0 N))) = zW cA ad (h.set a1 (.inl (0, n1, va_cpy f g 0 0 N))) := by
    rw [← zW_set]
    rfl
  exact k H1 locs1 la (by rw [← e1]; exact hP1) (by rw [← e1]; exact hD1) hS1 hL
/-- the two tables of the class -/
theorem zgets0 (hC : zR 3 cc code nL fr lo R1 R0 C) (hd : decode cc pc = .ok (.getstatic 38, 3)) (k : C (pc + 3) ls (.ref 1000 :: rest) h) : C pc ls rest h := by
  obtain ⟨p, l, e, R, s, m, args, below, meth, c, Q, D, cA, ad, A, kc, ks, F, hK, hck, hfr2, hlo2, hcr, hR1, hR0, rfl⟩ := hC
  intro H locs la hP hD hS hL
  have w : Cond.fieldLink RX3 38 "RepealedLaws" "LEAST_VALUES" "[I" ∈ zt := by decide +kernel
  exact va_gets F.1 F.2.1 hK.2.2.1.1 hS F.2.2.2.1 (F.2.2.2.2 _ w) (fun _ hx => hx) hd (k H locs la hP hD hS hL)
theorem zgets1 (hC : zR 3 cc code nL fr lo R1 R0 C) (hd : decode cc pc = .ok (.getstatic 42, 3)) (k : C (pc + 3) ls (.ref 1001 :: rest) h) : C pc ls rest h := by
  obtain ⟨p, l, e, R, s, m, args, below, meth, c, Q, D, cA, ad, A, kc, ks, F, hK, hck, hfr2, hlo2, hcr, hR1, hR0, rfl⟩ := hC
  intro H locs la hP hD hS hL
  have w : Cond.fieldLink RX3 42 "RepealedLaws" "GREATEST_VALUES" "[I" ∈ zt := by decide +kernel
  exact va_gets F.1 F.2.1 hK.2.2.2.1 hS F.2.2.2.1 (F.2.2.2.2 _ w) (fun _ hx => hx) hd (k H locs la hP hD hS hL)
theorem ztab0 (hC : zR own cc code nL fr lo R1 R0 C) (hd : decode cc pc = .ok (.iaload, 1)) {i v : Int32} (hi : vp_in i 3) (hv : zleast i.toNatClampNeg = .int v) (k : C (pc + 1) ls (.int v :: rest) h) : C pc ls (.int i :: .ref 1000 :: rest) h := by
  obtain ⟨p, l, e, R, s, m, args, below, meth, c, Q, D, cA, ad, A, kc, ks, F, hK, hck, hfr2, hlo2, hcr, hR1, hR0, rfl⟩ := hC
  intro H locs la hP hD hS hL
  exact va_ti F.1 F.2.1 hK.2.2.1.2 hS hi hv hd (k H locs la hP hD hS hL)
theorem ztab1 (hC : zR own cc code nL fr lo R1 R0 C) (hd : decode cc pc = .ok (.iaload, 1)) {i v : Int32} (hi : vp_in i 3) (hv : zgreat i.toNatClampNeg = .int v) (k : C (pc + 1) ls (.int v :: rest) h) : C pc ls (.int i :: .ref 1001 :: rest) h := by
  obtain ⟨p, l, e, R, s, m, args, below, meth, c, Q, D, cA, ad, A, kc, ks, F, hK, hck, hfr2, hlo2, hcr, hR1, hR0, rfl⟩ := hC
  intro H locs la hP hD hS hL
  exact va_ti F.1 F.2.1 hK.2.2.2.2 hS hi hv hd (k H locs la hP hD hS hL)
/-- a table switch: the answer is its table's, or the default -/
theorem zsw (hC : zR own cc code nL fr lo R1 R0 C) {dflt lw hi : Int} {offs : Array Int} {len : Nat} {x : Int32} {r : List Value} (hd : decode cc pc = .ok (.tableswitch dflt lw hi offs, len)) {tgt : Nat} (ht : if x.toInt < lw ∨ hi < x.toInt then (pc : Int) + dflt = (tgt : Int) else ∃ off, offs[(x.toInt - lw).toNat]? = some off ∧ (pc : Int) + off = (tgt : Int))
    (k : C tgt ls r h) : C pc ls (.int x :: r) h := by
  obtain ⟨p, l, e, R, s, m, args, below, meth, c, Q, D, cA, ad, A, kc, ks, F, hK, hck, hfr2, hlo2, hcr, hR1, hR0, rfl⟩ := hC
  intro H locs la hP hD hS hL
  split at ht
  · rename_i hq
    exact lv_tableOut F.1 F.2.1 hd hq ht (k H locs la hP hD hS hL)
  · rename_i hq
    obtain ⟨off, h1, h2⟩ := ht
    exact lv_tableIn F.1 F.2.1 hd (fun q => hq (Or.inl q)) (fun q => hq (Or.inr q)) h1 h2 (k H locs la hP hD hS hL)
theorem zlsw (hC : zR own cc code nL fr lo R1 R0 C) {dflt : Int} {ps : Array (Int × Int)} {len : Nat} {x : Int32} {r : List Value} (hd : decode cc pc = .ok (.lookupswitch dflt ps, len)) (hp : (ps.toList.zip (ps.toList.drop 1)).all (fun (a, next) => a.1 < next.1) = true) {tgt : Nat} (ht : (pc : Int) + Op.lookupswitch.offset ps.toList dflt x.toInt = (tgt : Int))
    (k : C tgt ls r h) : C pc ls (.int x :: r) h := by
  obtain ⟨p, l, e, R, s, m, args, below, meth, c, Q, D, cA, ad, A, kc, ks, F, hK, hck, hfr2, hlo2, hcr, hR1, hR0, rfl⟩ := hC
  intro H locs la hP hD hS hL
  exact lv_lookup F.1 F.2.1 hd hp rfl ht (k H locs la hP hD hS hL)
end ZC3
