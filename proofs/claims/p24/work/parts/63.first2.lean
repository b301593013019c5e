/-! the first state -/
theorem zeqr1_rf (c : ZC) : zeqr1 c c := by
  obtain x | x | x := c
  · rfl
  · rfl
  · exact ⟨rfl, fun _ _ => rfl⟩
theorem zeqrv_rf : ∀ h : List ZC, zeqrv h h
  | [] => trivial
  | c :: t => ⟨zeqr1_rf c, zeqrv_rf t⟩
theorem zeqrv_app : ∀ (a b c d : List ZC), zeqrv a b → zeqrv c d → zeqrv (a ++ c) (b ++ d)
  | [], [], c, d, _, h => h
  | x :: t, y :: u, c, d, h1, h2 => ⟨h1.1, zeqrv_app t u c d h1.2 h2⟩
  | [], y :: u, c, d, h1, _ => h1.elim
  | x :: t, [], c, d, h1, _ => h1.elim
/-- the cells of the class, put together -/
def hX0 : List ZC := hXo (zo3 (.ref 1) (.ref 11) (.ref 13) (.ref 75) (.ref 96)) 2 ++ [.inl (2, 2, fun _ => nI 0)]
def hXf : List ZC := hX (v00 30) (fun _ => v00 30) (nI 0) (nI 0) (fun _ => v00 30) (fun _ => nI 0) (fun _ => nI 0) (nI 0)
theorem hX0_len : hX0.length = 97 := by
  rw [hX0, List.length_append, hXo_len]
  rfl
set_option maxRecDepth 20000 in
set_option maxHeartbeats 4000000 in
theorem hX0_f : zeqrv hX0 hXf := ⟨rfl, rfl, rfl, rfl, rfl, rfl, rfl, rfl, rfl, rfl, rfl, rfl, rfl, rfl, ⟨rfl, z6 rfl rfl rfl rfl rfl rfl⟩, rfl, rfl, rfl, rfl, rfl, rfl, rfl, rfl, rfl, rfl, rfl, rfl, rfl, rfl, rfl, rfl, rfl, rfl, rfl, rfl, rfl, rfl, rfl, rfl, rfl, rfl, rfl, rfl, rfl, rfl, rfl, rfl, rfl, rfl, rfl, rfl, rfl, rfl, rfl, rfl, rfl, rfl, rfl, rfl, rfl, rfl, rfl, rfl, rfl, rfl, rfl, rfl, rfl, rfl, rfl, rfl, rfl, rfl, rfl, rfl, ⟨rfl, z2 rfl rfl⟩, rfl, rfl, rfl, rfl, rfl, rfl, rfl, rfl, rfl, rfl, rfl, rfl, rfl, rfl, rfl, rfl, rfl, rfl, rfl, rfl, rfl, trivial⟩
