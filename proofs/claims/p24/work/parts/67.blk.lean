/-! blocks: cells that lie one behind the other, and a call over one block -/
def zbl : Nat → Nat → List Nat
  | _, 0 => []
  | N, n + 1 => N :: zbl (N + 1) n
theorem zbl_get : ∀ (n N i : Nat), i < n → (zbl N n)[i]? = some (i + N)
  | 0, N, i, h => absurd h (Nat.not_lt_zero i)
  | n + 1, N, 0, _ => by simp [zbl]
  | n + 1, N, i + 1, h => by
    rw [zbl, List.getElem?_cons_succ, zbl_get n (N + 1) i (by omega)]
    congr 1
    omega
theorem zbl_len : ∀ (n N : Nat), (zbl N n).length = n
  | 0, N => rfl
  | n + 1, N => by rw [zbl, List.length_cons, zbl_len n (N + 1)]
theorem zsi_bl {n N i : Nat} (h : i < n) : zsi (zbl N n) i = i + N := zsi_get (zbl_get n N i h)
theorem zrv_bl {n N : Nat} : ∀ vs : List Value, zvc n vs = true → vs.map (zrv (zbl N n)) = vs.map (zvu N)
  | [], _ => rfl
  | w :: t, h => by
    cases w with
    | ref i =>
      simp only [zvc] at h
      have h1 := Bool.and_eq_true_iff.mp h
      rw [List.map_cons, List.map_cons, zrv_bl t h1.2]
      show Value.ref (zsi (zbl N n) i) :: _ = Value.ref (i + N) :: _
      rw [zsi_bl (Nat.le_of_ble_eq_true h1.1)]
    | _ => exact congrArg (List.cons _) (zrv_bl t h)
theorem zrn_bl {n N : Nat} {c : ZC} (h : zcc1 n c) : zrn (zbl N n) c = zcu N c := by
  match c, h with
  | .inl x, _ => rfl
  | .inr (.inl x), h =>
    show Sum.inr (Sum.inl (x.1, x.2.map (zrv (zbl N n)))) = Sum.inr (Sum.inl (x.1, x.2.map (zvu N)))
    rw [zrv_bl x.2 h]
  | .inr (.inr x), h =>
    show Sum.inr (Sum.inr (x.1, fun j => (x.2 j).map (zsi (zbl N n)))) = Sum.inr (Sum.inr (x.1, fun j => (x.2 j).map (fun i => i + N)))
    have e : (fun j => (x.2 j).map (zsi (zbl N n))) = (fun j => (x.2 j).map (fun i => i + N)) := by
      funext j
      cases hj : x.2 j with
      | none => rfl
      | some i =>
        show some (zsi (zbl N n) i) = some (i + N)
        rw [zsi_bl (h j i hj)]
    rw [e]
theorem zvu_0 : ∀ vs : List Value, vs.map (zvu 0) = vs
  | [] => rfl
  | w :: t => by
    rw [List.map_cons, zvu_0 t]
    cases w <;> rfl
theorem zcu_0 (c : ZC) : zcu 0 c = c := by
  match c with
  | .inl x => rfl
  | .inr (.inl x) =>
    show Sum.inr (Sum.inl (x.1, x.2.map (zvu 0))) = _
    rw [zvu_0]
  | .inr (.inr x) =>
    show Sum.inr (Sum.inr (x.1, fun j => (x.2 j).map (fun i => i + 0))) = _
    have e : (fun j => (x.2 j).map (fun i => i + 0)) = x.2 := by
      funext j
      cases x.2 j <;> rfl
    rw [e]
theorem zsub_of {sg0 : List Nat} {h : List ZC} : ∀ (sg : List Nat) (hc : List ZC), sg.length = hc.length → (∀ (i j : Nat) (c : ZC), sg[i]? = some j → hc[i]? = some c → h[j]? = some (zrn sg0 c)) → zsub sg0 h sg hc
  | [], [], _, _ => trivial
  | j :: sg, c :: hc, hl, hq => ⟨by rw [zg_eq]; exact hq 0 j c rfl rfl, zsub_of sg hc (by simpa using hl) (fun i k d h1 h2 => hq (i + 1) k d (by simpa using h1) (by simpa using h2))⟩
  | [], c :: hc, hl, _ => by simp at hl
  | j :: sg, [], hl, _ => by simp at hl
theorem zmem_t {k : Nat} : ∀ {sg : List Nat} {i : Nat}, sg[i]? = some k → zmem k sg = true
  | [], i, h => by simp at h
  | a :: t, 0, h => by
    have e : a = k := by simpa using h
    subst e
    rw [zmem, Nat.beq_refl]
  | a :: t, i + 1, h => by
    rw [zmem]
    split
    · rfl
    · exact zmem_t (sg := t) (i := i) (by simpa using h)
theorem zoth_of {sg : List Nat} : ∀ (k : Nat) (h h2 : List ZC), h2.length = h.length → (∀ i : Nat, zmem (k + i) sg = false → h2[i]? = h[i]?) → zoth sg k h h2
  | _, [], [], _, _ => trivial
  | k, c :: t, d :: u, hl, hq => by
    refine ⟨?_, zoth_of (k + 1) t u (by simpa using hl) (fun i hi => ?_)⟩
    · cases hm : zmem k sg with
      | true => trivial
      | false =>
        have h1 := hq 0 hm
        have h2 : some d = some c := h1
        exact (Option.some.inj h2).symm
    · have h1 := hq (i + 1) (by rw [show k + (i + 1) = k + 1 + i by omega]; exact hi)
      simpa using h1
  | _, [], d :: u, hl, _ => by simp at hl
  | _, c :: t, [], hl, _ => by simp at hl
theorem ZSB_m {n N : Nat} {p a a2 t : List ZC} (hp : p.length = N) (ha : a.length = n) (ha2 : a2.length = n) : ZSB (zbl N n) (p ++ (a.map (zrn (zbl N n)) ++ t)) (p ++ (a2.map (zrn (zbl N n)) ++ t)) a a2 := by
  have key : ∀ (b : List ZC), b.length = n → zsub (zbl N n) (p ++ (b.map (zrn (zbl N n)) ++ t)) (zbl N n) b := by
    intro b hb
    refine zsub_of _ _ (by rw [zbl_len, hb]) (fun i j c h1 h2 => ?_)
    have hi : i < n := by rw [← hb]; exact (List.getElem?_eq_some_iff.mp h2).1
    rw [zbl_get n N i hi] at h1
    have e : i + N = j := Option.some.inj h1
    subst e
    rw [List.getElem?_append_right (by omega), hp, Nat.add_sub_cancel, List.getElem?_append_left (by rw [List.length_map, hb]; exact hi), List.getElem?_map, h2]
    rfl
  refine ⟨key a ha, key a2 ha2, zoth_of 0 _ _ (by simp [ha, ha2]) (fun i hi => ?_)⟩
  rw [Nat.zero_add] at hi
  by_cases c1 : i < N
  · rw [List.getElem?_append_left (by omega), List.getElem?_append_left (by omega)]
  · have c2 : ¬ i < N + n := by
      intro z
      have h1 := zmem_t (k := i) (sg := zbl N n) (i := i - N) (by rw [zbl_get n N (i - N) (by omega)]; congr 1; omega)
      rw [hi] at h1
      cases h1
    have r : ∀ b : List ZC, b.length = n → (p ++ (b.map (zrn (zbl N n)) ++ t))[i]? = t[i - N - n]? := by
      intro b hb
      rw [List.getElem?_append_right (by omega), List.getElem?_append_right (by rw [List.length_map]; omega), List.length_map, hb, hp]
    rw [r a ha, r a2 ha2]
theorem zsi_b0 (n i : Nat) : zsi (zbl 0 n) i = i := by
  by_cases h : i < n
  · exact zsi_bl h
  · unfold zsi
    rw [zg_eq, List.getElem?_eq_none (by rw [zbl_len]; omega)]
theorem zrv_b0 (n : Nat) : ∀ vs : List Value, vs.map (zrv (zbl 0 n)) = vs
  | [] => rfl
  | w :: t => by
    rw [List.map_cons, zrv_b0 n t]
    cases w with
    | ref i => exact congrArg (fun k => Value.ref k :: t) (zsi_b0 n i)
    | _ => rfl
theorem zrn_b0 (n : Nat) (c : ZC) : zrn (zbl 0 n) c = c := by
  match c with
  | .inl x => rfl
  | .inr (.inl x) =>
    show Sum.inr (Sum.inl (x.1, x.2.map (zrv (zbl 0 n)))) = _
    rw [zrv_b0]
  | .inr (.inr x) =>
    show Sum.inr (Sum.inr (x.1, fun j => (x.2 j).map (zsi (zbl 0 n)))) = _
    have e : (fun j => (x.2 j).map (zsi (zbl 0 n))) = x.2 := by
      funext j
      cases x.2 j with
      | none => rfl
      | some i => exact congrArg some (zsi_b0 n i)
    rw [e]
theorem zmap_id {f : ZC → ZC} {h : List ZC} (hf : ∀ c, f c = c) : h.map f = h := by
  have e : f = id := funext hf
  rw [e, List.map_id]
/-! the cells of both objects -/
def hLL (x y : ZX) : List ZC := x.h ++ y.h.map (zrn (zbl 97 97))
set_option maxRecDepth 20000 in
theorem hX_len (v : CV) (hv : Nat → CV) (ho hk : Int32) (sv : Nat → CV) (fl ps : Nat → Int32) (pl : Int32) : (hX v hv ho hk sv fl ps pl).length = 97 := rfl
theorem ZXh_len (x : ZX) : x.h.length = 97 := hX_len _ _ _ _ _ _ _ _
theorem lSBo (x x2 y : ZX) : ZSB (zbl 0 97) (hLL x y) (hLL x2 y) x.h x2.h := by
  have h := ZSB_m (N := 0) (p := []) (t := y.h.map (zrn (zbl 97 97))) rfl (ZXh_len x) (ZXh_len x2)
  rw [zmap_id (zrn_b0 97), zmap_id (zrn_b0 97), List.nil_append, List.nil_append] at h
  exact h
theorem lSBp (x y y2 : ZX) : ZSB (zbl 97 97) (hLL x y) (hLL x y2) y.h y2.h := by
  have h := ZSB_m (t := []) (ZXh_len x) (ZXh_len y) (ZXh_len y2)
  rw [List.append_nil, List.append_nil] at h
  exact h
theorem lnd1 : va_nd (zbl 0 97) = true := by decide +kernel
theorem lnd2 : va_nd (zbl 97 97) = true := by decide +kernel
section ZC5
variable {own : Nat} {cc : ByteArray} {code : List (Nat × Nat × Instr)} {nL fr lo : Nat} {R1 : Int32 → List ZC → Prop} {R0 : List ZC → Prop} {C : ZP}
variable {y : MethodName} {ccc : ByteArray} {nLc : Nat} {ret : Option FieldType} {n frc loc idx : Nat} {As rest : List Value} {h h2 hx hx2 : List ZC} {pc : Nat} {rv : Option Value} {ls : List (Option Value)}
theorem zcallSb {sg : List Nat} (hC : zR own cc code nL fr lo R1 R0 C) (hM : ZM y ccc nLc ret frc loc As hx rv hx2) (hq : ZSB sg h h2 hx hx2) (hnd : va_nd sg = true) (hsz : sg.length ≤ 1000) (hc : zcS y ccc nLc ret n) (hl : Cond.methodLink (zcn own) idx y ∈ zt) (hd : decode cc pc = .ok (.invokestatic idx, 3)) (hn : As.length = n) (hls : ls.length = nL) (hfr : frc + 1 ≤ fr) (hlo : 8 + (nLc + 11) + loc ≤ lo) (hcat : (rest.map fun v => v.category).sum ≤ 8)
    (k : C (pc + 3) ls ((rv.map (zrv sg)).toList ++ rest) h2) : C pc ls ((As.map (zrv sg)).reverse ++ rest) h := by
  obtain ⟨p, l, e, R, s, m, args, below, meth, c, Q, D, cA, ad, A, kc, ks, F, hK, hck, hfr2, hlo2, hcr, hR1, hR0, rfl⟩ := hC
  obtain ⟨c1, c3, c4, c5⟩ := hc
  intro H locs la hP hD hS hL
  have hst : ((As.map (zrv sg)).reverse ++ rest).map (zv ad) = (As.map (zv (zad ad sg))).reverse ++ rest.map (zv ad) := by
    simp only [List.map_append, List.map_reverse, List.map_map]
    congr 2
    apply List.map_congr_left
    intro v _
    exact zv_rv ad sg v
  rw [hst]
  have hG : GoodIn zt (va_wsS (zcn own) idx y (.code y ccc nLc ret :: zt)) := zt_good2 (fun w hw => by
    unfold va_wsS at hw
    rcases List.mem_append.mp hw with hw | hw
    · simp only [List.mem_cons, List.not_mem_nil, or_false] at hw
      rcases hw with rfl | rfl | rfl
      · exact hl
      · exact c1
      · exact c3
    · rcases List.mem_cons.mp hw with rfl | hw
      · exact c4
      · exact hw)
  have hPs := z_sub_P hq.1 hP
  have hDs := z_sub_D hq.1 hnd hD
  refine z_core (A1 := zA (zad ad sg) hx.length) (PP := va_P D vwCl (zW cA (zad ad sg) hx2)) (va_runS (As := As.map (zv (zad ad sg))) (rest := rest.map (zv ad)) F (hM.2 l D cA (zad ad sg)) (va_cwS n F.2.2.2.2 hG rfl rfl rfl c5 ⟨by simpa using Nat.le_trans hfr hfr2, by simpa using Nat.le_trans hlo hlo2⟩) ⟨zPc_blind, fun U hU hW => ⟨rfl, by rw [hU]; exact hPs, zE.to hK hS hU hW (zA_sub hDs) (by unfold zad; rw [zsi_big hsz (by omega)]) (by unfold zad; rw [zsi_big hsz (by omega)]), hDs.weaken (fun _ _ _ _ => trivial)⟩⟩ rfl (by rw [List.length_map]; exact hn) (by rw [← hls]; exact hL.1) rfl (lv_room (by rw [zcat_eq]; exact hcat)) hd hcr) (fun st oc t hq => hq) hS (zA_sub hDs) (zA_sub hDs) (fun H1 locs1 hP1 hk1 hS1 => ?_)
  have e : (rv.map (zv (zad ad sg))).toList ++ rest.map (zv ad) = ((rv.map (zrv sg)).toList ++ rest).map (zv ad) := by
    cases rv <;> simp [zv_rv]
  rw [e]
  exact k H1 locs1 la (z_back2_P hq hM.1 hP hD hP1 hk1) (zD_len (zoth_len 0 _ _ hq.2.2) hD) hS1 hL
end ZC5
