/-! THE Z LOGIC, a constructor called -/
section ZNI
variable {p : Program} {l : Launch} {e : Env} {R : Room} {s : State} {m : MethodId} {args : Array Value} {below : List Frame} {meth : Method} {c : Code} {Q : State → Prop} {A : Nat → Prop} {H : Heap} {locs : List Loc} {kc ks mc1 ms1 : Nat}
theorem z_coreN {pc : Nat} {la : Array Slot} {st0 rest : List Value} {Qa : State → Outcome → State → Prop} {free : Addr → Prop} {PP : Heap → Prop} {A1 : Nat → Prop}
    (hr : va_Run p l e R s m args below meth c H locs kc ks mc1 ms1 (F0 m pc la st0) rest Qa free)
    (hQ : ∀ st oc t, Qa st oc t → oc = .returned none ∧ PP t.heap ∧ va_F A1 st t) (hS : va_S A s.heap H locs) (hA : ∀ q, A1 q → A q) (hf : ∀ q, free q → A q)
    (kk : ∀ (H1 : Heap) (locs1 : List Loc), PP H1 → (∀ q : Nat, q < H.size → ¬ A1 q → H1[q]? = H[q]?) → va_S A s.heap H1 locs1 → W p l e R s m args below meth c H1 locs1 (kc + mc1) (ks + ms1) Q (F0 m (pc + 3) la rest)) :
    W p l e R s m args below meth c H locs kc ks Q (F0 m pc la st0) := by
  intro T hT X
  obtain ⟨v, st₀, t, T', L, h0, X', hL, e1, e2, hq, st⟩ := hr T hT X
  obtain ⟨hv, hP, hz, hk⟩ := hQ _ _ _ hq
  cases hv
  rw [h0] at hz hk
  obtain ⟨t2, a1, b1⟩ := kk T'.heap (locs ++ L) (by rw [e1]; exact hP) (fun q h1 h2 => by rw [e1]; exact hk q h1 h2)
    ⟨Nat.le_trans hS.1 (by rw [e1]; exact hz), fun q h1 h2 => by rw [e1, hk q (Nat.lt_of_lt_of_le h1 hS.1) (fun z => h2 (hA q z))]; exact hS.2.1 q h1 h2, fun q hq => by
      rcases List.mem_append.mp hq with h | h
      · exact hS.2.2 q h
      · exact hf _ (hL q h)⟩ T' rfl X'
  exact ⟨t2, st t2 a1, b1⟩
end ZNI
/-- where the cells lie behind a constructor's call -/
def zaj (ad ad2 : Nat → Nat) (N n : Nat) : Nat → Nat := fun i => if i < N then ad i else if i < N + n then ad2 (i - N) else ad i
theorem zj_P {D : va_G} {cA : Nat → ClassId} {ad ad2 : Nat → Nat} {A : Nat → Prop} {h hI : List ZC} {c0 : ZC} {H H1 : Heap} {f : Nat → Nat} (hf0 : f 0 = ad h.length) (hP : va_P D vwCl (zW cA ad (h ++ [c0])) H) (hD : va_D A (zW cA ad (h ++ [c0]))) (hb : zhb h.length h) (hI1 : zhc hI.length hI) (hlen : h.length + hI.length < 1000) (hP1 : va_P D vwCl (zW cA ad2 hI) H1) (hD1 : va_D (zB f H.size) (zW cA ad2 hI)) (hk1 : ∀ q : Nat, q < H.size → ¬ zB f H.size q → H1[q]? = H[q]?) (hA : ∀ q, zB f H.size q → A q) :
    va_P D vwCl (zW cA (zaj ad ad2 h.length hI.length) (h ++ hI.map (zcu h.length))) H1 ∧ va_D A (zW cA (zaj ad ad2 h.length hI.length) (h ++ hI.map (zcu h.length))) := by
  have old : ∀ (i : Nat) (d : ZC), h[i]? = some d → (zW cA ad (h ++ [c0]))[i]? = some (ad i, zce cA ad d) := fun i d hi => zW_get (by rw [List.getElem?_append_left (List.getElem?_eq_some_iff.mp hi).1]; exact hi)
  have self : (zW cA ad (h ++ [c0]))[h.length]? = some (ad h.length, zce cA ad c0) := zW_get (by simp)
  have ag : zag h.length ad (zaj ad ad2 h.length hI.length) := by
    intro i hi
    unfold zaj
    rcases hi with hi | hi
    · rw [if_pos hi]
    · rw [if_neg (by omega), if_neg (by omega)]
  have ag2 : ∀ i, i < hI.length → zaj ad ad2 h.length hI.length (i + h.length) = ad2 i := by
    intro i hi
    unfold zaj
    rw [if_neg (by omega), if_pos (by omega), Nat.add_sub_cancel]
  have cases' : ∀ (k : Nat) (q : Nat × va_E), (zW cA (zaj ad ad2 h.length hI.length) (h ++ hI.map (zcu h.length)))[k]? = some q → (∃ d, k < h.length ∧ h[k]? = some d ∧ q = (ad k, zce cA ad d)) ∨ (∃ j d, k = j + h.length ∧ j < hI.length ∧ hI[j]? = some d ∧ q = (ad2 j, zce cA ad2 d)) := by
    intro k q hk
    obtain ⟨d, hd, rfl⟩ := zW_inv hk
    by_cases c : k < h.length
    · rw [List.getElem?_append_left c] at hd
      exact Or.inl ⟨d, c, hd, by rw [ag k (Or.inl c), zce_ag ag (zhb_get h hb k d hd)]⟩
    · rw [List.getElem?_append_right (by omega), List.getElem?_map] at hd
      cases hj : hI[k - h.length]? with
      | none => rw [hj] at hd; cases hd
      | some d2 =>
        rw [hj] at hd
        cases hd
        have hlt := (List.getElem?_eq_some_iff.mp hj).1
        refine Or.inr ⟨k - h.length, d2, by omega, hlt, hj, ?_⟩
        have e := ag2 _ hlt
        rw [show k - h.length + h.length = k by omega] at e
        rw [e, zcu_ce ag2 (hI1 _ _ hj)]
  have lo : ∀ (k : Nat) (d : ZC), k < h.length → h[k]? = some d → ad k < H.size ∧ ¬ zB f H.size (ad k) := by
    intro k d hk hd
    have hlt := (hP k _ (old k d hd)).lt
    refine ⟨hlt, ?_⟩
    rintro (z | z)
    · have e := hD.1 k h.length _ _ (old k d hd) self (by show ad k = ad h.length; rw [z, hf0])
      omega
    · have : H.size ≤ ad k := z
      have h2 : ad k < H.size := hlt
      omega
  refine ⟨fun k q hk => ?_, fun i j p q hi hj hpq => ?_, fun k q hk => ?_⟩
  · rcases cases' k q hk with ⟨d, h1, h2, rfl⟩ | ⟨j, d, rfl, h1, h2, rfl⟩
    · exact (hP k _ (old k d h2)).kept (hk1 _ (lo k d h1 h2).1 (lo k d h1 h2).2)
    · exact hP1 j _ (zW_get h2)
  · rcases cases' i p hi with ⟨d, h1, h2, rfl⟩ | ⟨j1, d, rfl, h1, h2, rfl⟩ <;> rcases cases' j q hj with ⟨d', h3, h4, rfl⟩ | ⟨j2, d', rfl, h3, h4, rfl⟩
    · exact hD.1 i j _ _ (old i d h2) (old j d' h4) hpq
    · have e := hD1.2 j2 _ (zW_get h4)
      exact absurd (by have e3 : ad i = ad2 j2 := hpq; rw [e3]; exact e) (lo i d h1 h2).2
    · have e := hD1.2 j1 _ (zW_get h2)
      exact absurd (by have e3 : ad2 j1 = ad j := hpq; rw [← e3]; exact e) (lo j d' h3 h4).2
    · have e := hD1.1 j1 j2 _ _ (zW_get h2) (zW_get h4) hpq
      rw [e]
  · rcases cases' k q hk with ⟨d, h1, h2, rfl⟩ | ⟨j, d, rfl, h1, h2, rfl⟩
    · exact hD.2 k _ (old k d h2)
    · exact hA _ (hD1.2 j _ (zW_get h2))
