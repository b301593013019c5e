/-! codes made one behind the other -/
/-- i codes, the first of them at the place K -/
def zbk (K : Nat) : Nat → List ZC
  | 0 => []
  | i + 1 => zbk K i ++ (hC (v00 30)).map (zcu (K + 10 * i))
theorem zbk_len (K : Nat) : ∀ i, (zbk K i).length = 10 * i
  | 0 => rfl
  | i + 1 => by
    rw [zbk, List.length_append, zbk_len K i, List.length_map, show (hC (v00 30)).length = 10 from rfl]
    omega
theorem zhb_app {N : Nat} : ∀ (a b : List ZC), zhb N a → zhb N b → zhb N (a ++ b)
  | [], b, _, h => h
  | .inl x :: t, b, h1, h2 => zhb_app t b h1 h2
  | .inr (.inl x) :: t, b, h1, h2 => ⟨h1.1, zhb_app t b h1.2 h2⟩
  | .inr (.inr x) :: t, b, h1, h2 => ⟨h1.1, zhb_app t b h1.2 h2⟩
theorem zvb_up {n N K : Nat} (hN : n + K ≤ N) : ∀ vs : List Value, zvc n vs = true → zvb N (vs.map (zvu K)) = true
  | [], _ => rfl
  | w :: t, h => by
    cases w with
    | ref i =>
      simp only [zvc] at h
      have h1 := Bool.and_eq_true_iff.mp h
      have h2 := Nat.le_of_ble_eq_true h1.1
      show ((Nat.ble (i + K + 1) N || Nat.ble 1000 (i + K)) && zvb N (t.map (zvu K))) = true
      rw [zvb_up hN t h1.2, show Nat.ble (i + K + 1) N = true from Nat.ble_eq_true_of_le (by omega)]
      rfl
    | _ => exact zvb_up hN t h
theorem zhb_up {n N K : Nat} (hN : n + K ≤ N) : ∀ h : List ZC, (∀ c ∈ h, zcc1 n c) → zhb N (h.map (zcu K))
  | [], _ => trivial
  | .inl x :: t, h => zhb_up hN t (fun c hc => h c (List.mem_cons_of_mem _ hc))
  | .inr (.inl x) :: t, h => ⟨zvb_up hN x.2 (h _ List.mem_cons_self), zhb_up hN t (fun c hc => h c (List.mem_cons_of_mem _ hc))⟩
  | .inr (.inr x) :: t, h => by
    refine ⟨fun j i hj => ?_, zhb_up hN t (fun c hc => h c (List.mem_cons_of_mem _ hc))⟩
    have h1 : ∀ j i, x.2 j = some i → i < n := h _ List.mem_cons_self
    have hj : Option.map (fun i => i + K) (x.2 j) = some i := hj
    cases hx : x.2 j with
    | none =>
      rw [hx] at hj
      cases hj
    | some k =>
      rw [hx] at hj
      have e : k + K = i := Option.some.inj hj
      have h2 := h1 j k hx
      left
      omega
theorem zhc_of {n : Nat} {h : List ZC} (hh : ∀ c ∈ h, zcc1 n c) : zhc n h := fun i c hi => hh c (List.mem_of_getElem? hi)
theorem hC_c (v : CV) : ∀ c ∈ hC v, zcc1 10 c := by
  intro c hc
  simp only [hC, List.mem_cons, List.not_mem_nil, or_false] at hc
  rcases hc with rfl | rfl | rfl | rfl | rfl | rfl | rfl | rfl | rfl | rfl
  · exact rfl
  all_goals exact trivial
theorem zbk_b {K N : Nat} : ∀ i, K + 10 * i ≤ N → zhb N (zbk K i)
  | 0, _ => trivial
  | i + 1, h => by
    rw [zbk]
    exact zhb_app _ _ (zbk_b i (by omega)) (zhb_up (n := 10) (by omega) _ (hC_c _))
