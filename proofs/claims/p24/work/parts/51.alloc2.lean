/-! THE Z LOGIC, objects made, final fields, references stored -/
section ZNR2
variable {own : Nat} {cc : ByteArray} {code : List (Nat × Nat × Instr)} {nL fr lo mc ms : Nat} {R1 : Int32 → List ZC → Prop} {R0 : List ZC → Prop} {f ad : Nat → Nat} {CN : (Nat → Nat) → Nat → Nat → ZP} {kc ks pc : Nat} {ls : List (Option Value)} {st : List Value} {h : List ZC}
theorem zadn_fx {q N : Nat} (hf : zfx f ad) (h0 : 0 < N) (hl : N < 1000) : zfx f (fun i => if i = N then q else ad i) := ⟨by show (if _ then _ else _) = _; rw [if_neg (by omega)]; exact hf.1, fun i hi => by show (if _ then _ else _) = _; rw [if_neg (by omega)]; exact hf.2 i hi⟩
theorem zadn_ag {q N : Nat} (hl : N < 1000) : zag N ad (fun i => if i = N then q else ad i) := fun i hi => if_neg (by omega)
theorem zn_new (hN : zNR own cc code nL fr lo mc ms R1 R0 f CN) (hf : zfx f ad) {ci idx : Nat} (hci : ci < 5) (hcl : Cond.classLink (zcn own) idx (zcn ci) ∈ zt) (hinst : Cond.instantiable (zcn ci) (zcN ci) ∈ zt) (hini : Cond.initialized (zcn ci) ∈ zt) {fs : List Value} (hfs : ∀ j, j < zcN ci → defaultValue (zcty ci j) = vp_V fs j) (hfr : ∀ a : Nat → Nat, fs.map (zv a) = fs) (hc : kc + 1 ≤ mc) (hs : ks + zcN ci ≤ ms) (hd : decode cc pc = .ok (.new idx, 3)) (hl : h.length < 1000) (hb : zhb h.length h) (hlb : zlb h.length ls = true) (hsb : zvb h.length st = true) (h0 : 0 < h.length)
    (k : ∀ ad2, zfx f ad2 → CN ad2 (kc + 1) (ks + zcN ci) (pc + 3) ls (.ref h.length :: st) (h ++ [.inr (.inl (ci, fs))])) : CN ad kc ks pc ls st h := by
  obtain ⟨p, l, e, R, s, m, args, below, meth, c, Q, D, cA, A, F, hE, hO, hck, hfr1, hlo, hcr, hA, hin, h1, hr0, rfl⟩ := hN
  intro H locs la hP hD hS hL
  refine va_new (ci := ci) (fs := fs) F.1 F.2.1 F.2.2.2.2 (zc_ws _ hci) (zcty ci) (zc_ty _ hci) F.2.2.2.1 (F.2.2.2.2 _ hcl) (F.2.2.2.2 _ hinst) (F.2.2.2.2 _ hini) hE.1 hP hD hS hA (zc_cl _ hci) hfs (Nat.le_trans hc hcr.1) (Nat.le_trans hs hcr.2) hd (fun q H1 hP1 hD1 hS1 => ?_)
  have hg : zag h.length ad (fun i => if i = h.length then q else ad i) := zadn_ag hl
  have hf2 : zfx f (fun i => if i = h.length then q else ad i) := zadn_fx hf h0 hl
  have eW : zW cA (fun i => if i = h.length then q else ad i) (h ++ [.inr (.inl (ci, fs))]) = zW cA ad h ++ [(q, .inr (ci, fs))] := by
    rw [zW_app, zW_ag hg hb (Nat.le_refl _), if_pos rfl]
    show _ ++ [(q, Sum.inr (ci, fs.map _))] = _
    rw [hfr]
  have eS : (Value.ref h.length :: st).map (zv (fun i => if i = h.length then q else ad i)) = .ref q :: st.map (zv ad) := by
    rw [List.map_cons, zv_ag hg st hsb]
    show Value.ref (if h.length = h.length then q else ad h.length) :: _ = _
    rw [if_pos rfl]
  have := k _ hf2 H1 locs la (by rw [eW]; exact hP1) (by rw [eW]; exact hD1) hS1 (zHas_ag hg hlb hL)
  rw [eS] at this
  exact this
theorem zn_newq (hN : zNR own cc code nL fr lo mc ms R1 R0 f CN) (hf : zfx f ad) {idx n : Nat} (hcl : Cond.classLink (zcn own) idx RX0 ∈ zt) (hn : n < 2 ^ 20) (hc : kc + 1 ≤ mc) (hs : ks + n ≤ ms) (hd : decode cc pc = .ok (.anewarray idx, 3)) (hl : h.length < 1000) (hb : zhb h.length h) (hlb : zlb h.length ls = true) (hsb : zvb h.length st = true) (h0 : 0 < h.length)
    (k : ∀ ad2, zfx f ad2 → CN ad2 (kc + 1) (ks + n) (pc + 3) ls (.ref h.length :: st) (h ++ [.inr (.inr (n, fun _ => none))])) : CN ad kc ks pc ls (.int (nI n) :: st) h := by
  obtain ⟨p, l, e, R, s, m, args, below, meth, c, Q, D, cA, A, F, hE, hO, hck, hfr1, hlo, hcr, hA, hin, h1, hr0, rfl⟩ := hN
  intro H locs la hP hD hS hL
  refine va_newq F.1 F.2.1 F.2.2.2.1 (F.2.2.2.2 _ hcl) hO hE.1 hP hD hS hA (nI_pos (by omega)) (nI_clamp (by omega)) (by omega) (Nat.le_trans hc hcr.1) (Nat.le_trans hs hcr.2) hd (fun q cB H1 hK1 hP1 hD1 hS1 => ?_)
  have e1 : cB = cA 3 := by
    have a1 := (hK1.2 (zT cA).length (cB, .object RX0) (by simp)).2
    have a2 := (hE.1.2 3 (cA 3, .object RX0) rfl).2
    exact zRA_one a1 a2
  subst e1
  have hg : zag h.length ad (fun i => if i = h.length then q else ad i) := zadn_ag hl
  have hf2 : zfx f (fun i => if i = h.length then q else ad i) := zadn_fx hf h0 hl
  have eW : zW cA (fun i => if i = h.length then q else ad i) (h ++ [.inr (.inr (n, fun _ => none))]) = zW cA ad h ++ [(q, .inl (cA 3, n, .inr (.inr (.inr (.inr (fun _ => none))))))] := by
    rw [zW_app, zW_ag hg hb (Nat.le_refl _), if_pos rfl]
    rfl
  have eS : (Value.ref h.length :: st).map (zv (fun i => if i = h.length then q else ad i)) = .ref q :: st.map (zv ad) := by
    rw [List.map_cons, zv_ag hg st hsb]
    show Value.ref (if h.length = h.length then q else ad h.length) :: _ = _
    rw [if_pos rfl]
  have := k _ hf2 H1 locs la (by rw [eW]; exact hP1) (by rw [eW]; exact hD1) hS1 (zHas_ag hg hlb hL)
  rw [eS] at this
  exact this
/-- a final field, in its constructor -/
theorem zn_putF (hN : zNR own cc code nL fr lo mc ms R1 R0 f CN) (ho5 : own < 5) {i idx a : Nat} (hz : zlk (zft own) idx = some (own, i)) (hfin : (zcT own i).2.2.2 = true) {v : Value} {fs : List Value} (hnar : ∀ a : Nat → Nat, narrow (zcty own i) (zv a v) = zv a v) (hfit : ∀ a : Nat → Nat, fits (zcty own i) (zv a v) = true) (he : zg h a = some (.inr (.inl (own, fs)))) (hl : i < fs.length) (hd : decode cc pc = .ok (.putfield idx, 3))
    (k : CN ad kc ks (pc + 3) ls st (h.set a (.inr (.inl (own, fs.set i v))))) : CN ad kc ks pc ls (v :: .ref a :: st) h := by
  obtain ⟨p, l, e, R, s, m, args, below, meth, c, Q, D, cA, A, F, hE, hO, hck, hfr1, hlo, hcr, hA, hin, h1, hr0, rfl⟩ := hN
  obtain ⟨g1, g2, g3, g4⟩ := zf_ok hz
  rw [zg_eq] at he
  intro H locs la hP hD hS hL
  refine va_putF F.1 F.2.1 F.2.2.2.2 (zc_ws _ g1) (zcty own) (zc_ty _ g1) (zc_nm _ g1) F.2.2.2.1 hE.1 hP hD hS a (zW_get he) (zc_cl _ g1) i g2 (F.2.2.2.2 _ g3) (fun _ hx => by rw [g4] at hx; exact hx) hfin (hin ho5) g4 (zc_ty _ g1 _ g2) (hnar ad) (hfit ad) (by rw [List.length_map]; exact hl) hd (fun H1 locs1 hP1 hD1 hS1 => ?_)
  have e1 : (zW cA ad h).set a (ad a, .inr (own, (fs.map (zv ad)).set i (zv ad v))) = zW cA ad (h.set a (.inr (.inl (own, fs.set i v)))) := by
    rw [← zW_set]
    simp [zce, List.map_set]
  exact k H1 locs1 la (by rw [← e1]; exact hP1) (by rw [← e1]; exact hD1) hS1 hL
/-- an object stored in an array of Code -/
theorem zn_ast (hN : zNR own cc code nL fr lo mc ms R1 R0 f CN) {a b n i : Nat} {g : Nat → Option Nat} {vs : List Value} (ha : zg h a = some (.inr (.inr (n, g)))) (hb : zg h b = some (.inr (.inl (0, vs)))) (hi : i < n) (hn : n < 2 ^ 31) (hd : decode cc pc = .ok (.aastore, 1))
    (k : CN ad kc ks (pc + 1) ls st (h.set a (.inr (.inr (n, va_up g i (some b)))))) : CN ad kc ks pc ls (.ref b :: .int (nI i) :: .ref a :: st) h := by
  obtain ⟨p, l, e, R, s, m, args, below, meth, c, Q, D, cA, A, F, hE, hO, hck, hfr1, hlo, hcr, hA, hin, h1, hr0, rfl⟩ := hN
  rw [zg_eq] at ha hb
  intro H locs la hP hD hS hL
  refine va_astq F.1 F.2.1 hE.1 hP hD hS a 3 b 0 (zW_get ha) rfl (zW_get hb) (zc_cl 0 (by decide)) (vp_in_nI hi hn) hd (fun H1 locs1 hP1 hD1 hS1 => ?_)
  have e1 : (zW cA ad h).set a (ad a, .inl (cA 3, n, .inr (.inr (.inr (.inr (va_up (fun j => (g j).map ad) (nI i).toNatClampNeg (some (ad b)))))))) = zW cA ad (h.set a (.inr (.inr (n, va_up g i (some b))))) := by
    rw [← zW_set, nI_clamp (by omega)]
    have e2 : va_up (fun j => (g j).map ad) i (some (ad b)) = fun j => (va_up g i (some b) j).map ad := by
      funext j
      unfold va_up
      by_cases c : j = i
      · rw [if_pos c, if_pos c]; rfl
      · rw [if_neg c, if_neg c]
    rw [e2]
    rfl
  exact k H1 locs1 la (by rw [← e1]; exact hP1) (by rw [← e1]; exact hD1) hS1 hL
theorem zn_obj (hN : zNR own cc code nL fr lo mc ms R1 R0 f CN) {idx a : Nat} (hl : Cond.methodLink (zcn own) idx objectInit ∈ zt) (hd : decode cc pc = .ok (.invokespecial idx, 3)) (hls : ls.length = nL) (hfr : 1 ≤ fr) (hlo : 40 ≤ lo)
    (k : CN ad kc ks (pc + 3) ls [] h) : CN ad kc ks pc ls [.ref a] h := by
  obtain ⟨p, l, e, R, s, m, args, below, meth, c, Q, D, cA, A, F, hE, hO, hck, hfr1, hlo1, hcr, hA, hin, h1, hr0, rfl⟩ := hN
  have w1 : Cond.instanceMethod objectInit ∈ zt := by decide +kernel
  have w2 : Cond.code objectInit ⟨#[0xb1]⟩ 1 none ∈ zt := by decide +kernel
  intro H locs la hP hD hS hL
  refine W.objInit F.1 F.2.1 F.2.2.2.1 (F.2.2.2.2 _ hl) (F.2.2.2.2 _ w1) (F.2.2.2.2 _ w2) rfl (by rw [F.2.2.1, ← hls]; exact hL.1) rfl hd (Nat.le_trans hfr hfr1) (Nat.le_trans (Nat.le_trans (Nat.le_of_ble_eq_true rfl) hlo) hlo1) ?_
  exact k H locs la hP hD hS hL
end ZNR2
