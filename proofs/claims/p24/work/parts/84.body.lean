/-! the law's body: both objects made, then the loop -/
section ZNX
variable {own : Nat} {cc : ByteArray} {code : List (Nat × Nat × Instr)} {nL fr lo mc ms : Nat} {R1 : Int32 → List ZC → Prop} {R0 : List ZC → Prop} {f ad : Nat → Nat} {CN : (Nat → Nat) → Nat → Nat → ZP} {kc ks pc : Nat} {ls : List (Option Value)} {rest : List Value} {h : List ZC}
theorem zn_iniX (nest : Bool) (hN : zNR own cc code nL fr lo mc ms R1 R0 f CN) (hf : zfx f ad) {y : MethodName} {ccc : ByteArray} {nLc frc loc mc1 ms1 ci idx : Nat} {fs0 : List Value} {hI : List ZC} (hM : ZI y ccc nLc frc loc mc1 ms1 ci fs0 hI) (hfr0 : ∀ a : Nat → Nat, fs0.map (zv a) = fs0) (hn : y.name = "<init>") (hw1 : Cond.instanceMethod y ∈ zt) (hw2 : Cond.initialized y.cls ∈ zt) (hw3 : Cond.code y ccc nLc none ∈ zt) (hd0 : y.cls ≠ "java/lang/invoke/MethodHandle" ∧ y.cls ≠ "java/lang/invoke/VarHandle" ∧ (parseMethodDescriptor y.desc).map (fun d => d.parameters.length) = some 0)
    (hl : match nest with | false => Cond.methodLink (zcn own) idx y ∈ zt | true => Cond.methodLinkNest (zcn own) idx y "RepealedLaws" = zn4)
    (hd : decode cc pc = .ok (.invokespecial idx, 3)) (hls : ls.length = nL) (hfr : frc + 1 ≤ fr) (hlo : 8 + (nLc + 11) + loc ≤ lo) (hcat : (rest.map fun v => v.category).sum ≤ 8) (hc : kc + mc1 ≤ mc) (hs : ks + ms1 ≤ ms)
    (hlen : h.length + hI.length < 1000) (hI0 : 0 < hI.length) (hb : zhb h.length h) (hI1 : zhc hI.length hI) (hlb : zlb (h.length + 1) ls = true) (hrb : zvb (h.length + 1) rest = true)
    (k : ∀ ad2, zfx f ad2 → CN ad2 (kc + mc1) (ks + ms1) (pc + 3) ls rest (h ++ hI.map (zcu h.length))) : CN ad kc ks pc ls (.ref h.length :: rest) (h ++ [.inr (.inl (ci, fs0))]) := by
  obtain ⟨p, l, e, R, s, m, args, below, meth, c, Q, D, cA, A, F, hE, hO, hck, hfr1, hlo1, hcr, hA, hin, h1, hr0, rfl⟩ := hN
  intro H locs la hP hD hS hL
  have hG : GoodIn zt (.code y ccc nLc none :: zt) := zt_good2 (fun w hw => by
    rcases List.mem_cons.mp hw with rfl | hw
    · exact hw3
    · exact hw)
  have hf0 : zfj ad h.length 0 = ad h.length := if_pos rfl
  have hfa : ∀ q, zB (zfj ad h.length) H.size q → A q := by
    rintro q (z | z)
    · rw [z, hf0]
      exact hD.2 h.length (ad h.length, zce cA ad (.inr (.inl (ci, fs0)))) (zW_get (by simp))
    · exact hA q (Nat.le_trans hS.1 z)
  have hPo : va_P D vwCl (zW cA (zfj ad h.length) [.inr (.inl (ci, fs0))]) H := by
    intro k q hk
    obtain ⟨d, hd2, rfl⟩ := zW_inv hk
    have hlt := (List.getElem?_eq_some_iff.mp hd2).1
    have e0 : k = 0 := by simpa using hlt
    subst e0
    have e1 : d = .inr (.inl (ci, fs0)) := by simpa using hd2.symm
    subst e1
    have h3 := hP h.length (ad h.length, zce cA ad (.inr (.inl (ci, fs0)))) (zW_get (by simp))
    have h4 : va_at D vwCl (ad h.length, .inr (ci, fs0.map (zv ad))) H := h3
    rw [hfr0] at h4
    rw [hf0]
    show va_at D vwCl (ad h.length, .inr (ci, fs0.map (zv (zfj ad h.length)))) H
    rw [hfr0]
    exact h4
  have hE2 : ∀ U : State, U.heap = H → s.WarmedH U.vm → zE D cA (zfj ad h.length) (zB (zfj ad h.length) H.size) U U.heap := fun U hU hW => zE.to (hE.fx hf) hS hU hW hfa (if_neg (by decide)) (if_neg (by decide))
  have hrun : va_Run p l e R s m args below meth c H locs kc ks mc1 ms1 (F0 m pc la ((.ref h.length :: rest).map (zv ad))) (rest.map (zv ad)) ((fun _ st oc t => oc = .returned none ∧ (∃ ad', zfx (zfj ad h.length) ad' ∧ va_P D vwCl (zW cA ad' hI) t.heap ∧ va_D (zB (zfj ad h.length) H.size) (zW cA ad' hI)) ∧ va_F (zB (zfj ad h.length) H.size) st t) ([Value.ref (ad h.length)] : List Value).toArray) (zB (zfj ad h.length) H.size) := by
    have hM2 := hM l D cA (zfj ad h.length) H.size
    rw [hf0] at hM2
    have hp : PreS s H (va_Pc [.ref (ad h.length)] (fun U => U.heap.size = H.size ∧ va_P D vwCl (zW cA (zfj ad h.length) [.inr (.inl (ci, fs0))]) U.heap ∧ zE D cA (zfj ad h.length) (zB (zfj ad h.length) H.size) U U.heap ∧ va_AO RX0 U)) (.ref (ad h.length) :: []) := ⟨zIPc_blind, fun U hU hW => ⟨rfl, by rw [hU], by rw [hU]; exact hPo, hE2 U hU hW, va_AO.moved hW.alike hO⟩⟩
    cases nest with
    | false => exact va_runI (As := []) (rest := rest.map (zv ad)) F hM2 ⟨callB_of 0 F.2.2.2.2 hG rfl rfl rfl (F.2.2.2.2 _ hw2) (F.2.2.2.2 _ hl) hd0 ⟨Nat.le_trans hfr hfr1, Nat.le_trans hlo hlo1⟩, hn, F.2.2.2.2 _ hw1⟩ hp rfl rfl (by rw [← hls]; exact hL.1) rfl (lv_room (by rw [zcat_eq]; exact hcat)) hd ⟨Nat.le_trans hc hcr.1, Nat.le_trans hs hcr.2⟩
    | true => exact va_runIN (As := []) (rest := rest.map (zv ad)) F hM2 ⟨va_cnB 0 F.2.2.2.2 hG rfl rfl rfl (by rw [hl]; exact hE.2.1.2.2.2) (F.2.2.2.2 _ hw2) hd0 ⟨Nat.le_trans hfr hfr1, Nat.le_trans hlo hlo1⟩, hn, F.2.2.2.2 _ hw1⟩ hp rfl rfl (by rw [← hls]; exact hL.1) rfl (lv_room (by rw [zcat_eq]; exact hcat)) hd ⟨Nat.le_trans hc hcr.1, Nat.le_trans hs hcr.2⟩
  refine z_coreN hrun (PP := fun H1 => ∃ ad', zfx (zfj ad h.length) ad' ∧ va_P D vwCl (zW cA ad' hI) H1 ∧ va_D (zB (zfj ad h.length) H.size) (zW cA ad' hI)) (fun st oc t hq => hq) hS hfa hfa (fun H1 locs1 hP1 hk1 hS1 => ?_)
  obtain ⟨ad2, hf2, hP2, hD2⟩ := hP1
  obtain ⟨g1, g2⟩ := zj_P hf0 hP hD hb hI1 hlen hP2 hD2 hk1 hfa
  have hag : zag (h.length + 1) ad (zaj ad ad2 h.length hI.length) := by
    intro i hi
    unfold zaj
    by_cases c1 : i < h.length
    · rw [if_pos c1]
    · by_cases c2 : i = h.length
      · subst c2
        rw [if_neg (by omega), if_pos (by omega), Nat.sub_self, hf2.1, hf0]
      · rw [if_neg c1, if_neg (by omega)]
  have hfx3 : zfx f (zaj ad ad2 h.length hI.length) := ⟨by rw [hag 0 (Or.inl (by omega))]; exact hf.1, fun i hi => by rw [hag i (Or.inr hi)]; exact hf.2 i hi⟩
  have h9 := k _ hfx3 H1 locs1 la g1 g2 hS1 (zHas_ag hag hlb hL)
  rw [zv_ag hag rest hrb] at h9
  exact h9
end ZNX
theorem zn_eq {own : Nat} {cc : ByteArray} {code : List (Nat × Nat × Instr)} {nL fr lo mc ms : Nat} {R1 : Int32 → List ZC → Prop} {R0 : List ZC → Prop} {f ad : Nat → Nat} {CN : (Nat → Nat) → Nat → Nat → ZP} {kc ks pc : Nat} {ls : List (Option Value)} {st : List Value} {h h2 : List ZC} (hN : zNR own cc code nL fr lo mc ms R1 R0 f CN) (hq : zeqrv h h2) (k : CN ad kc ks pc ls st h2) : CN ad kc ks pc ls st h := by
  obtain ⟨p, l, e, R, s, m, args, below, meth, c, Q, D, cA, A, F, hE, hO, hck, hfr, hlo, hcr, hA, hin, h1, hr0, rfl⟩ := hN
  exact fun H locs la hP hD hS hL => k H locs la (zeqrv_P hq hP) (zD_len (zeqrv_len _ _ hq).symm hD) hS hL
def x00 : ZX := (v00 30, fun _ => v00 30, 0, 0, fun _ => v00 30, fun _ => nI 0, fun _ => nI 0, 0)
theorem hX0_c : ∀ c ∈ hX0, zcc1 97 c := by
  intro c hc
  simp only [hX0, hXo, List.mem_append, List.mem_cons, List.not_mem_nil, or_false] at hc
  rcases hc with (((((rfl | hc) | hc) | hc) | rfl) | hc) | rfl
  · exact rfl
  · obtain ⟨d, hd, rfl⟩ := List.mem_map.mp hc
    exact zcc1_up (n := 10) (by decide) (hC_c _ d hd)
  · obtain ⟨d, hd, rfl⟩ := List.mem_map.mp hc
    exact zcc1_up (n := 2) (by decide) (hP_c _ _ d hd)
  · obtain ⟨d, hd, rfl⟩ := List.mem_map.mp hc
    exact zcc1_up (n := 62) (by decide) (hHo_c d hd)
  · intro j i hj
    have hj : gho 76 2 j = some i := hj
    unfold gho at hj
    by_cases c : j < 2
    · rw [if_pos c] at hj
      have e := Option.some.inj hj
      omega
    · rw [if_neg c] at hj
      cases hj
  · exact zbk_c 2 (by decide) c hc
  · trivial
theorem hX0_b : zhb 97 hX0 := zhb_app _ _ (hXo_b (by decide) (zhb_o3 rfl)) trivial
theorem iX3f : ZI yX3_init cX3_init 2 3 110 96 5520 3 [.null, .null, .null, .null, .null] hX0 := iX3
theorem zeqr1_rn {sg : List Nat} {c d : ZC} (h : zeqr1 c d) : zeqr1 (zrn sg c) (zrn sg d) := by
  match c, d, h with
  | .inr (.inr x), .inr (.inr y), h => exact ⟨h.1, fun j hj => by show (x.2 j).map (zsi sg) = (y.2 j).map (zsi sg); rw [h.2 j hj]⟩
  | .inl x, d, h =>
    have h : (Sum.inl x : ZC) = d := h
    subst h
    exact zeqr1_rf _
  | .inr (.inl x), d, h =>
    have h : (Sum.inr (Sum.inl x) : ZC) = d := h
    subst h
    exact zeqr1_rf _
  | .inr (.inr x), .inl y, h => cases h
  | .inr (.inr x), .inr (.inl y), h => cases h
theorem zeqrv_map {sg : List Nat} : ∀ (a b : List ZC), zeqrv a b → zeqrv (a.map (zrn sg)) (b.map (zrn sg))
  | [], [], _ => trivial
  | c :: t, d :: u, h => ⟨zeqr1_rn h.1, zeqrv_map t u h.2⟩
  | [], d :: u, h => h.elim
  | c :: t, [], h => h.elim
theorem hX0_2 : zeqrv (hX0 ++ hX0.map (zcu 97)) (hLL x00 x00) := by
  have e : hX0.map (zcu 97) = hX0.map (zrn (zbl 97 97)) := (List.map_congr_left (fun c hc => zrn_bl (hX0_c c hc))).symm
  rw [e]
  exact zeqrv_app _ _ _ _ hX0_f (zeqrv_map _ _ hX0_f)
theorem l_first : RR 0 x00 x00 := by
  have h0 : GG 0 (v00 30) (v00 30) := by
    refine ⟨0, 0, ⟨⟨rfl, by decide⟩, fun j hj => absurd hj (Nat.not_lt_zero j), rfl, Nat.le_refl 0, fun j hj => absurd hj (Nat.not_lt_zero j)⟩, fun _ _ => rfl, fun c b hc hb => ?_, fun j hj => absurd hj (Nat.not_lt_zero j), rfl, rfl, rfl⟩
    show zfi 30 (6 * c + (5 - b)) = nx (zfi 30 (6 * c + b))
    rw [zfi, zfi, if_pos (by omega), if_pos (by omega), nx_3]
  exact ⟨⟨rfl, rfl, by decide, by decide, rfl, rfl⟩, h0, fun j hj => absurd hj (Nat.not_lt_zero j), fun j _ => Or.inl ⟨rfl, rfl⟩⟩
set_option maxRecDepth 20000 in
set_option maxHeartbeats 2000000 in
theorem l_body {f : Nat → Nat} {CN : (Nat → Nat) → Nat → Nat → ZP} (hN : zNR 5 cL_law qL_law 5 11 442 600000 7302249 (fun x _ => x = nI 1) (fun _ => False) f CN) (hs : ∀ (ad : Nat → Nat) (kc ks : Nat), zfx f ad → kc ≤ 600000 → ks ≤ 7302249 → LCl (CN ad kc ks)) : CN f 1 5 3 [some (.ref 1002), none, none, none, none] [.ref 0] [.inr (.inl (3, [.null, .null, .null, .null, .null]))] := by
  have hf := zfx_rf f
  refine zgo (hN.R (kc := 1) (ks := 5) hf (Nat.le_of_ble_eq_true rfl) (Nat.le_of_ble_eq_true rfl)) 1 1 rfl ?_
  refine zn_iniX false (h := []) hN hf iX3f (fun _ => rfl) rfl (by decide +kernel) (by decide +kernel) (by decide +kernel) ⟨(by decide +kernel), (by decide +kernel), (by decide +kernel)⟩ (idx := 106) (show Cond.methodLink (zcn 5) 106 yX3_init ∈ zt by decide +kernel) (by decide +kernel) rfl (by decide) (by decide) (Nat.le_of_ble_eq_true rfl) (Nat.le_of_ble_eq_true rfl) (Nat.le_of_ble_eq_true rfl) (by rw [hX0_len]; decide) (by rw [hX0_len]; decide) trivial (by rw [hX0_len]; exact zhc_of hX0_c) rfl rfl (fun ad hf => ?_)
  show CN ad 97 5525 7 [some (.ref 1002), none, none, none, none] [.ref 0] (hX0.map (zcu 0))
  rw [zmap_id zcu_0]
  refine zgo (hN.R (kc := 97) (ks := 5525) hf (Nat.le_of_ble_eq_true rfl) (Nat.le_of_ble_eq_true rfl)) 3 1 rfl ?_
  show CN ad 97 5525 8 [some (.ref 1002), some (.ref 0), none, none, none] [] hX0
  refine zn_new hN hf (ci := 3) (idx := 10) (fs := [.null, .null, .null, .null, .null]) (by decide) (by decide +kernel) (by decide +kernel) (by decide +kernel) (by decide) (fun _ => rfl) (Nat.le_of_ble_eq_true rfl) (Nat.le_of_ble_eq_true rfl) (by decide +kernel) (by rw [hX0_len]; decide) (by rw [hX0_len]; exact hX0_b) (by rw [hX0_len]; rfl) rfl (by rw [hX0_len]; decide) (fun ad hf => ?_)
  refine zgo (hN.R (kc := 98) (ks := 5530) hf (Nat.le_of_ble_eq_true rfl) (Nat.le_of_ble_eq_true rfl)) 5 1 rfl ?_
  refine zn_iniX false (h := hX0) hN hf iX3f (fun _ => rfl) rfl (by decide +kernel) (by decide +kernel) (by decide +kernel) ⟨(by decide +kernel), (by decide +kernel), (by decide +kernel)⟩ (idx := 106) (show Cond.methodLink (zcn 5) 106 yX3_init ∈ zt by decide +kernel) (by decide +kernel) rfl (by decide) (by decide) (Nat.le_of_ble_eq_true rfl) (Nat.le_of_ble_eq_true rfl) (Nat.le_of_ble_eq_true rfl) (by rw [hX0_len]; decide) (by rw [hX0_len]; decide) (by rw [hX0_len]; exact hX0_b) (by rw [hX0_len]; exact zhc_of hX0_c) (by rw [hX0_len]; rfl) (by rw [hX0_len]; rfl) (fun ad hf => ?_)
  rw [hX0_len]
  refine zgo (hN.R (kc := 98 + 96) (ks := 5530 + 5520) hf (Nat.le_of_ble_eq_true rfl) (Nat.le_of_ble_eq_true rfl)) 7 5 rfl ?_
  show CN ad (98 + 96) (5530 + 5520) 21 [some (.ref 1002), some (.ref 0), some (.ref 97), some (.int (nI 1)), some (.int (nI 0))] [] (hX0 ++ hX0.map (zcu 97))
  refine zn_eq hN hX0_2 ?_
  exact l_loop (hN.R (kc := 98 + 96) (ks := 5530 + 5520) hf (Nat.le_of_ble_eq_true rfl) (Nat.le_of_ble_eq_true rfl)) (hs ad _ _ hf (Nat.le_of_ble_eq_true rfl) (Nat.le_of_ble_eq_true rfl)) (fun _ => rfl) l_first
