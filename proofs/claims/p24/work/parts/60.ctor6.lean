/-! what is referred to by a pad, by a history -/
theorem hP_c (ps : Nat → Int32) (pl : Int32) : ∀ c ∈ hP ps pl, zcc1 2 c := by
  intro c hc
  simp only [hP, List.mem_cons, List.not_mem_nil, or_false] at hc
  rcases hc with rfl | rfl
  · exact rfl
  · exact trivial
theorem zvc_up {n N K : Nat} (hN : n + K ≤ N) : ∀ vs : List Value, zvc n vs = true → zvc N (vs.map (zvu K)) = true
  | [], _ => rfl
  | w :: t, h => by
    cases w with
    | ref i =>
      simp only [zvc] at h
      have h1 := Bool.and_eq_true_iff.mp h
      have h2 := Nat.le_of_ble_eq_true h1.1
      show (Nat.ble (i + K + 1) N && zvc N (t.map (zvu K))) = true
      rw [zvc_up hN t h1.2, show Nat.ble (i + K + 1) N = true from Nat.ble_eq_true_of_le (by omega)]
      rfl
    | _ => exact zvc_up hN t h
theorem zcc1_up {n N K : Nat} (hN : n + K ≤ N) {c : ZC} (h : zcc1 n c) : zcc1 N (zcu K c) := by
  match c, h with
  | .inl x, _ => trivial
  | .inr (.inl x), h => exact zvc_up hN x.2 h
  | .inr (.inr x), h =>
    intro j i hj
    have h1 : ∀ j i, x.2 j = some i → i < n := h
    have hj : Option.map (fun i => i + K) (x.2 j) = some i := hj
    cases hx : x.2 j with
    | none =>
      rw [hx] at hj
      cases hj
    | some k =>
      rw [hx] at hj
      have e : k + K = i := Option.some.inj hj
      have h2 := h1 j k hx
      omega
theorem zbk_c {K N : Nat} : ∀ i, K + 10 * i ≤ N → ∀ c ∈ zbk K i, zcc1 N c
  | 0, _, c, hc => absurd hc List.not_mem_nil
  | i + 1, h, c, hc => by
    rw [zbk] at hc
    rcases List.mem_append.mp hc with hc | hc
    · exact zbk_c i (by omega) c hc
    · obtain ⟨d, hd, rfl⟩ := List.mem_map.mp hc
      exact zcc1_up (n := 10) (by omega) (hC_c _ d hd)
theorem hHo_c : ∀ c ∈ hHo 6, zcc1 62 c := by
  intro c hc
  rcases List.mem_append.mp hc with hc | hc
  · simp only [List.mem_cons, List.not_mem_nil, or_false] at hc
    rcases hc with rfl | rfl
    · exact rfl
    · intro j i hj
      have hj : gho 2 6 j = some i := hj
      unfold gho at hj
      by_cases c : j < 6
      · rw [if_pos c] at hj
        have e := Option.some.inj hj
        omega
      · rw [if_neg c] at hj
        cases hj
  · exact zbk_c 6 (Nat.le_refl _) c hc
