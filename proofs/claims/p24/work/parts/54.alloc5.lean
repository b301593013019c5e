/-! THE Z LOGIC, a constructor called: the rules -/
section ZNJ
variable {own : Nat} {cc : ByteArray} {code : List (Nat × Nat × Instr)} {nL fr lo mc ms : Nat} {R1 : Int32 → List ZC → Prop} {R0 : List ZC → Prop} {f ad : Nat → Nat} {CN : (Nat → Nat) → Nat → Nat → ZP} {kc ks pc : Nat} {ls : List (Option Value)} {rest : List Value} {h : List ZC}
theorem zIPc_blind {D : va_G} {cA : Nat → ClassId} {f : Nat → Nat} {sz : Nat} {h : List ZC} {av : List Value} : FrameBlind (va_Pc av (fun U => U.heap.size = sz ∧ va_P D vwCl (zW cA f h) U.heap ∧ zE D cA f (zB f sz) U U.heap ∧ va_AO RX0 U)) :=
  fun a U g mk q => ⟨q.1, q.2.1, q.2.2.1, zE.same (u := U) (U := U.calling g mk a) rfl q.2.2.2.1, va_AO.moved (u := U) (U := U.calling g mk a) (Vm.Alike.refl U.vm) q.2.2.2.2⟩
def zfj (ad : Nat → Nat) (N : Nat) : Nat → Nat := fun i => if i = 0 then ad N else ad i
/-- a constructor of the class ci called on the newest object -/
theorem zn_init (nest : Bool) (hN : zNR own cc code nL fr lo mc ms R1 R0 f CN) (hf : zfx f ad) {y : MethodName} {ccc : ByteArray} {nLc frc loc mc1 ms1 ci idx : Nat} {fs0 : List Value} {hI : List ZC} (hM : ZI y ccc nLc frc loc mc1 ms1 ci fs0 hI) (hfr0 : ∀ a : Nat → Nat, fs0.map (zv a) = fs0) (hn : y.name = "<init>") (hw1 : Cond.instanceMethod y ∈ zt) (hw2 : Cond.initialized y.cls ∈ zt) (hw3 : Cond.code y ccc nLc none ∈ zt) (hd0 : y.cls ≠ "java/lang/invoke/MethodHandle" ∧ y.cls ≠ "java/lang/invoke/VarHandle" ∧ (parseMethodDescriptor y.desc).map (fun d => d.parameters.length) = some 0)
    (hl : match nest with | false => Cond.methodLink (zcn own) idx y ∈ zt | true => Cond.methodLinkNest (zcn own) idx y "RepealedLaws" = zn4)
    (hd : decode cc pc = .ok (.invokespecial idx, 3)) (hls : ls.length = nL) (hfr : frc + 1 ≤ fr) (hlo : 8 + (nLc + 11) + loc ≤ lo) (hcat : (rest.map fun v => v.category).sum ≤ 8) (hc : kc + mc1 ≤ mc) (hs : ks + ms1 ≤ ms)
    (hlen : h.length + hI.length < 1000) (hI0 : 0 < hI.length) (h0 : 0 < h.length) (hb : zhb h.length h) (hI1 : zhc hI.length hI) (hlb : zlb (h.length + 1) ls = true) (hrb : zvb (h.length + 1) rest = true)
    (k : ∀ ad2, zfx f ad2 → CN ad2 (kc + mc1) (ks + ms1) (pc + 3) ls rest (h ++ hI.map (zcu h.length))) : CN ad kc ks pc ls (.ref h.length :: rest) (h ++ [.inr (.inl (ci, fs0))]) := by
  obtain ⟨p, l, e, R, s, m, args, below, meth, c, Q, D, cA, A, F, hE, hO, hck, hfr1, hlo1, hcr, hA, hin, h1, hr0, rfl⟩ := hN
  intro H locs la hP hD hS hL
  have hG : GoodIn zt (.code y ccc nLc none :: zt) := zt_good2 (fun w hw => by
    rcases List.mem_cons.mp hw with rfl | hw
    · exact hw3
    · exact hw)
  have hf0 : zfj ad h.length 0 = ad h.length := if_pos rfl
  have hfa : ∀ q, zB (zfj ad h.length) H.size q → A q := by
    rintro q (z | z)
    · rw [z, hf0]
      exact hD.2 h.length (ad h.length, zce cA ad (.inr (.inl (ci, fs0)))) (zW_get (by simp))
    · exact hA q (Nat.le_trans hS.1 z)
  have hPo : va_P D vwCl (zW cA (zfj ad h.length) [.inr (.inl (ci, fs0))]) H := by
    intro k q hk
    obtain ⟨d, hd2, rfl⟩ := zW_inv hk
    have hlt := (List.getElem?_eq_some_iff.mp hd2).1
    have e0 : k = 0 := by simpa using hlt
    subst e0
    have e1 : d = .inr (.inl (ci, fs0)) := by simpa using hd2.symm
    subst e1
    have h3 := hP h.length (ad h.length, zce cA ad (.inr (.inl (ci, fs0)))) (zW_get (by simp))
    have h4 : va_at D vwCl (ad h.length, .inr (ci, fs0.map (zv ad))) H := h3
    rw [hfr0] at h4
    rw [hf0]
    show va_at D vwCl (ad h.length, .inr (ci, fs0.map (zv (zfj ad h.length)))) H
    rw [hfr0]
    exact h4
  have hE2 : ∀ U : State, U.heap = H → s.WarmedH U.vm → zE D cA (zfj ad h.length) (zB (zfj ad h.length) H.size) U U.heap := fun U hU hW => zE.to (hE.fx hf) hS hU hW hfa (if_neg (by decide)) (if_neg (by decide))
  have hrun : va_Run p l e R s m args below meth c H locs kc ks mc1 ms1 (F0 m pc la ((.ref h.length :: rest).map (zv ad))) (rest.map (zv ad)) ((fun _ st oc t => oc = .returned none ∧ (∃ ad', zfx (zfj ad h.length) ad' ∧ va_P D vwCl (zW cA ad' hI) t.heap ∧ va_D (zB (zfj ad h.length) H.size) (zW cA ad' hI)) ∧ va_F (zB (zfj ad h.length) H.size) st t) ([Value.ref (ad h.length)] : List Value).toArray) (zB (zfj ad h.length) H.size) := by
    have hM2 := hM l D cA (zfj ad h.length) H.size
    rw [hf0] at hM2
    have hp : PreS s H (va_Pc [.ref (ad h.length)] (fun U => U.heap.size = H.size ∧ va_P D vwCl (zW cA (zfj ad h.length) [.inr (.inl (ci, fs0))]) U.heap ∧ zE D cA (zfj ad h.length) (zB (zfj ad h.length) H.size) U U.heap ∧ va_AO RX0 U)) (.ref (ad h.length) :: []) := ⟨zIPc_blind, fun U hU hW => ⟨rfl, by rw [hU], by rw [hU]; exact hPo, hE2 U hU hW, va_AO.moved hW.alike hO⟩⟩
    cases nest with
    | false => exact va_runI (As := []) (rest := rest.map (zv ad)) F hM2 ⟨callB_of 0 F.2.2.2.2 hG rfl rfl rfl (F.2.2.2.2 _ hw2) (F.2.2.2.2 _ hl) hd0 ⟨Nat.le_trans hfr hfr1, Nat.le_trans hlo hlo1⟩, hn, F.2.2.2.2 _ hw1⟩ hp rfl rfl (by rw [← hls]; exact hL.1) rfl (lv_room (by rw [zcat_eq]; exact hcat)) hd ⟨Nat.le_trans hc hcr.1, Nat.le_trans hs hcr.2⟩
    | true => exact va_runIN (As := []) (rest := rest.map (zv ad)) F hM2 ⟨va_cnB 0 F.2.2.2.2 hG rfl rfl rfl (by rw [hl]; exact hE.2.1.2.2.2) (F.2.2.2.2 _ hw2) hd0 ⟨Nat.le_trans hfr hfr1, Nat.le_trans hlo hlo1⟩, hn, F.2.2.2.2 _ hw1⟩ hp rfl rfl (by rw [← hls]; exact hL.1) rfl (lv_room (by rw [zcat_eq]; exact hcat)) hd ⟨Nat.le_trans hc hcr.1, Nat.le_trans hs hcr.2⟩
  refine z_coreN hrun (PP := fun H1 => ∃ ad', zfx (zfj ad h.length) ad' ∧ va_P D vwCl (zW cA ad' hI) H1 ∧ va_D (zB (zfj ad h.length) H.size) (zW cA ad' hI)) (fun st oc t hq => hq) hS hfa hfa (fun H1 locs1 hP1 hk1 hS1 => ?_)
  obtain ⟨ad2, hf2, hP2, hD2⟩ := hP1
  obtain ⟨g1, g2⟩ := zj_P hf0 hP hD hb hI1 hlen hP2 hD2 hk1 hfa
  have hag : zag (h.length + 1) ad (zaj ad ad2 h.length hI.length) := by
    intro i hi
    unfold zaj
    by_cases c1 : i < h.length
    · rw [if_pos c1]
    · by_cases c2 : i = h.length
      · subst c2
        rw [if_neg (by omega), if_pos (by omega), Nat.sub_self, hf2.1, hf0]
      · rw [if_neg c1, if_neg (by omega)]
  have hfx3 : zfx f (zaj ad ad2 h.length hI.length) := ⟨by rw [hag 0 (Or.inl (by omega))]; exact hf.1, fun i hi => by rw [hag i (Or.inr hi)]; exact hf.2 i hi⟩
  have h9 := k _ hfx3 H1 locs1 la g1 g2 hS1 (zHas_ag hag hlb hL)
  rw [zv_ag hag rest hrb] at h9
  exact h9
end ZNJ
