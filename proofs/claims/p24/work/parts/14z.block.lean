/-! a call over a part of the cells, the cells behind it told by the caller -/
def zmem (k : Nat) : List Nat → Bool
  | [] => false
  | a :: t => match Nat.beq a k with
    | true => true
    | false => zmem k t
theorem zmem_f {k : Nat} : ∀ {sg : List Nat}, (∀ i : Nat, ¬ sg[i]? = some k) → zmem k sg = false
  | [], _ => rfl
  | a :: t, h => by
    simp only [zmem]
    split
    · rename_i e
      have e2 : a = k := Nat.eq_of_beq_eq_true e
      exact absurd (by rw [← e2]; rfl) (h 0)
    · exact zmem_f (fun i hi => h (i + 1) (by simpa using hi))
def zoth (sg : List Nat) : Nat → List ZC → List ZC → Prop
  | _, [], [] => True
  | k, c :: t, d :: u => (match zmem k sg with
    | true => True
    | false => c = d) ∧ zoth sg (k + 1) t u
  | _, _, _ => False
theorem zoth_len {sg : List Nat} : ∀ (k : Nat) (h h2 : List ZC), zoth sg k h h2 → h2.length = h.length
  | _, [], [], _ => rfl
  | k, c :: t, d :: u, hq => by simp [zoth_len (k + 1) t u hq.2]
  | _, [], d :: u, hq => hq.elim
  | _, c :: t, [], hq => hq.elim
theorem zoth_get {sg : List Nat} : ∀ (k : Nat) (h h2 : List ZC), zoth sg k h h2 → ∀ (i : Nat) (d : ZC), h2[i]? = some d → zmem (k + i) sg = false → h[i]? = some d
  | _, [], [], _, i, d, hi, _ => by simp at hi
  | k, c :: t, d :: u, hq, 0, x, hi, hm => by
    simp at hi
    subst hi
    have h1 := hq.1
    rw [show k + 0 = k from rfl] at hm
    rw [hm] at h1
    simp [h1]
  | k, c :: t, d :: u, hq, i + 1, x, hi, hm => by
    simp only [List.getElem?_cons_succ] at hi ⊢
    exact zoth_get (k + 1) t u hq.2 i x hi (by rw [show k + 1 + i = k + (i + 1) by omega]; exact hm)
  | _, [], d :: u, hq, i, x, hi, hm => hq.elim
  | _, c :: t, [], hq, i, x, hi, hm => hq.elim
/-- the cells h are hx at sg, the cells h2 are hx2 there, and else they are the same -/
def ZSB (sg : List Nat) (h h2 hx hx2 : List ZC) : Prop := zsub sg h sg hx ∧ zsub sg h2 sg hx2 ∧ zoth sg 0 h h2
theorem z_back2_P {D : va_G} {cA : Nat → ClassId} {ad : Nat → Nat} {A : Nat → Prop} {sg : List Nat} {h h2 hc hc2 : List ZC} {H H1 : Heap} (hq : ZSB sg h h2 hc hc2) (hl : hc2.length = hc.length) (hP : va_P D vwCl (zW cA ad h) H) (hD : va_D A (zW cA ad h)) (hP1 : va_P D vwCl (zW cA (zad ad sg) hc2) H1) (hk1 : ∀ q : Nat, q < H.size → ¬ zA (zad ad sg) hc.length q → H1[q]? = H[q]?) : va_P D vwCl (zW cA ad h2) H1 := by
  obtain ⟨q1, q2, q3⟩ := hq
  intro k q hk
  obtain ⟨d, h1, rfl⟩ := zW_inv hk
  by_cases hm : ∃ i : Nat, sg[i]? = some k
  · obtain ⟨i, hi⟩ := hm
    have hil : i < sg.length := (List.getElem?_eq_some_iff.mp hi).1
    have hlen := zsub_len sg hc2 q2
    obtain ⟨j, b1, b2⟩ := zsub_get sg hc2 q2 i hc2[i] (List.getElem?_eq_getElem (by omega))
    have e : j = k := Option.some.inj (b1.symm.trans hi)
    subst e
    have e2 : d = zrn sg hc2[i] := Option.some.inj (h1.symm.trans b2)
    subst e2
    have h3 := hP1 i _ (zW_get (List.getElem?_eq_getElem (by omega)))
    rw [zce_rn]
    have e3 : zad ad sg i = ad j := by unfold zad; rw [zsi_get hi]
    rw [e3] at h3
    exact h3
  · have hf : zmem k sg = false := zmem_f (fun i hi => hm ⟨i, hi⟩)
    have a1 := zoth_get 0 h h2 q3 k d h1 (by rw [Nat.zero_add]; exact hf)
    have h3 := hP k _ (zW_get a1)
    refine h3.kept (hk1 _ h3.lt ?_)
    rintro ⟨i, i1, i2⟩
    have hci : hc[i]? = some hc[i] := List.getElem?_eq_getElem i1
    obtain ⟨j, b1, b2⟩ := zsub_get sg hc q1 i _ hci
    have e : ad k = ad j := by
      have := i2
      simp only [zad, zsi_get b1] at this
      exact this
    have e2 := hD.1 k j _ _ (zW_get a1) (zW_get b2) e
    subst e2
    exact hm ⟨i, b1⟩
section ZC4
variable {own : Nat} {cc : ByteArray} {code : List (Nat × Nat × Instr)} {nL fr lo : Nat} {R1 : Int32 → List ZC → Prop} {R0 : List ZC → Prop} {C : ZP}
variable {y : MethodName} {ccc : ByteArray} {nLc : Nat} {ret : Option FieldType} {n frc loc idx : Nat} {As rest : List Value} {h h2 hx hx2 : List ZC} {b pc : Nat} {rv : Option Value} {ls : List (Option Value)}
theorem zcallVb {sg : List Nat} (hC : zR own cc code nL fr lo R1 R0 C) (hM : ZM y ccc nLc ret frc loc (.ref b :: As) hx rv hx2) (hq : ZSB sg h h2 hx hx2) (hnd : va_nd sg = true) (hsz : sg.length ≤ 1000) (hc : zcV y ccc nLc ret n) (hl : Cond.methodLink (zcn own) idx y ∈ zt) (hd : decode cc pc = .ok (.invokevirtual idx, 3)) (hn : As.length = n) (hls : ls.length = nL) (hrc : zrc hx b = some y.cls) (hfr : frc + 1 ≤ fr) (hlo : 8 + (nLc + 11) + loc ≤ lo) (hcat : (rest.map fun v => v.category).sum ≤ 8)
    (k : C (pc + 3) ls ((rv.map (zrv sg)).toList ++ rest) h2) : C pc ls ((As.map (zrv sg)).reverse ++ .ref (zsi sg b) :: rest) h := by
  obtain ⟨p, l, e, R, s, m, args, below, meth, c, Q, D, cA, ad, A, kc, ks, F, hK, hck, hfr2, hlo2, hcr, hR1, hR0, rfl⟩ := hC
  obtain ⟨c1, c2, c3, c4, c5⟩ := hc
  obtain ⟨ci, fs, g1, g2, g3⟩ := zrc_inv hrc
  intro H locs la hP hD hS hL
  have hst : ((As.map (zrv sg)).reverse ++ .ref (zsi sg b) :: rest).map (zv ad) = (As.map (zv (zad ad sg))).reverse ++ .ref (zad ad sg b) :: rest.map (zv ad) := by
    simp only [List.map_append, List.map_reverse, List.map_map, List.map_cons]
    congr 2
    apply List.map_congr_left
    intro v _
    exact zv_rv ad sg v
  rw [hst]
  have hG : GoodIn zt (wsV (zcn own) idx y.cls y (.code y ccc nLc ret :: zt)) := zt_good2 (fun w hw => by
    unfold wsV at hw
    rcases List.mem_append.mp hw with hw | hw
    · simp only [List.mem_cons, List.not_mem_nil, or_false] at hw
      rcases hw with rfl | rfl | rfl | rfl
      · exact hl
      · exact c1
      · exact c2
      · exact c3
    · rcases List.mem_cons.mp hw with rfl | hw
      · exact c4
      · exact hw)
  have hPs := z_sub_P hq.1 hP
  have hDs := z_sub_D hq.1 hnd hD
  refine z_core (A1 := zA (zad ad sg) hx.length) (PP := va_P D vwCl (zW cA (zad ad sg) hx2)) (va_runV (As := As.map (zv (zad ad sg))) (rest := rest.map (zv ad)) F (hM.2 l D cA (zad ad sg)) (cwV n F.2.2.2.2 hG rfl rfl rfl ⟨rfl, c5⟩ ⟨by simpa using Nat.le_trans hfr hfr2, by simpa using Nat.le_trans hlo hlo2⟩) ⟨zPc_blind, ?_, fun U hU hW => ⟨rfl, by rw [hU]; exact hPs, zE.to hK hS hU hW (zA_sub hDs) (by unfold zad; rw [zsi_big hsz (by omega)]) (by unfold zad; rw [zsi_big hsz (by omega)]), hDs.weaken (fun _ _ _ _ => trivial)⟩⟩ rfl (by rw [List.length_map]; exact hn) (by rw [← hls]; exact hL.1) rfl (lv_room (by rw [zcat_eq]; exact hcat)) hd hcr) (fun st oc t hq => hq) hS (zA_sub hDs) (zA_sub hDs) (fun H1 locs1 hP1 hk1 hS1 => ?_)
  · have hv := va_recv hK.1 hPs (zc_cl ci g2) (zW_get g1)
    rw [g3] at hv
    exact hv
  · have e : (rv.map (zv (zad ad sg))).toList ++ rest.map (zv ad) = ((rv.map (zrv sg)).toList ++ rest).map (zv ad) := by
      cases rv <;> simp [zv_rv]
    rw [e]
    exact k H1 locs1 la (z_back2_P hq hM.1 hP hD hP1 hk1) (zD_len (zoth_len 0 _ _ hq.2.2) hD) hS1 hL
end ZC4
