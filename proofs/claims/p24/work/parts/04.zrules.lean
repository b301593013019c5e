/-! THE Z LOGIC, rules: tables of fields and long constants, instructions in normal form (absolute targets), what each does to abstract cells -/
def zf0 : List (Nat × Nat × Nat) := [(9, 0, 0), (15, 0, 1), (18, 0, 2), (21, 0, 3), (24, 0, 4), (27, 0, 5), (30, 0, 6), (33, 0, 7), (36, 0, 8), (45, 0, 9), (49, 0, 10), (52, 0, 11)]
def zl0 : List (Nat × Nat) := []
def zf1 : List (Nat × Nat × Nat) := [(11, 1, 0), (18, 1, 2), (30, 1, 1)]
def zl1 : List (Nat × Nat) := []
def zf2 : List (Nat × Nat × Nat) := [(9, 2, 0), (15, 2, 1)]
def zl2 : List (Nat × Nat) := []
def zf3 : List (Nat × Nat × Nat) := [(10, 3, 0), (19, 3, 1), (26, 3, 2), (30, 3, 3), (34, 3, 4), (49, 0, 0), (87, 0, 10), (91, 0, 5), (101, 2, 1), (118, 0, 11), (127, 0, 2), (130, 0, 3), (133, 0, 4), (136, 0, 6), (139, 0, 7), (142, 0, 8), (169, 0, 9), (187, 1, 2)]
def zl3 : List (Nat × Nat) := [(214, 255), (232, 33), (234, 126)]
def zf4 : List (Nat × Nat × Nat) := []
def zl4 : List (Nat × Nat) := []
def zf5 : List (Nat × Nat × Nat) := []
def zl5 : List (Nat × Nat) := [(15, 102), (17, 97), (19, 100), (21, 33)]
def zft (o : Nat) : List (Nat × Nat × Nat) := match o with
  | 0 => zf0
  | 1 => zf1
  | 2 => zf2
  | 3 => zf3
  | 4 => zf4
  | 5 => zf5
  | _ => []
def zlo (o : Nat) : List (Nat × Nat) := match o with
  | 0 => zl0
  | 1 => zl1
  | 2 => zl2
  | 3 => zl3
  | 4 => zl4
  | 5 => zl5
  | _ => []
def zlw (o : Nat) : List (Nat × Nat) := match o with
  | 5 => [(7, 2144593345), (8, 2147483647)]
  | 6 => [(265, 1431655765), (266, 858993459), (267, 252645135)]
  | _ => []
def zcn (o : Nat) : String := match o with
  | 0 => RX0
  | 1 => RX1
  | 2 => RX2
  | 3 => RX3
  | 4 => RX4
  | 5 => RL
  | _ => RJ6
def zcT (o : Nat) : u_T := match o with
  | 0 => TX0
  | 1 => TX1
  | 2 => TX2
  | 3 => TX3
  | _ => TX4
def zcN (o : Nat) : Nat := match o with
  | 0 => 12
  | 1 => 3
  | 2 => 2
  | 3 => 5
  | _ => 12
def zcty (o : Nat) : Nat → FieldType := match o with
  | 0 => tyX0
  | 1 => tyX1
  | 2 => tyX2
  | 3 => tyX3
  | _ => tyX4
theorem zc5 {P : Nat → Prop} (h0 : P 0) (h1 : P 1) (h2 : P 2) (h3 : P 3) (h4 : P 4) : ∀ i, i < 5 → P i := by
  intro i hi
  match i, hi with
  | 0, _ => exact h0
  | 1, _ => exact h1
  | 2, _ => exact h2
  | 3, _ => exact h3
  | 4, _ => exact h4
  | n + 5, h => exact absurd h (by omega)
theorem zc_cl : ∀ i, i < 5 → vwCl[i]? = some (zcn i, zcT i, zcN i) := zc5 rfl rfl rfl rfl rfl
theorem zc_ws : ∀ i, i < 5 → ∀ w ∈ u_ws (zcn i) (zcT i) (zcN i), w ∈ zt := zc5 zt_X0 zt_X1 zt_X2 zt_X3 zt_X4
theorem zc_ty : ∀ i, i < 5 → ∀ k, k < zcN i → parseFieldDescriptor (zcT i k).2.2.1 = some (zcty i k) := zc5 tyX0_ok tyX1_ok tyX2_ok tyX3_ok tyX4_ok
theorem zc_nm : ∀ i, i < 5 → ∀ a, a < zcN i → ∀ b, b < zcN i → a ≠ b → (zcT i a).2.1 ≠ (zcT i b).2.1 := zc5 nmX0 nmX1 nmX2 nmX3 nmX4
theorem zc_int : ∀ i, i < 5 → ∀ k, k < zcN i → (zcT i k).2.2.2 = false → parseFieldDescriptor (zcT i k).2.2.1 = some .int := zc5 (by decide +kernel) (by decide +kernel) (by decide +kernel) (by decide +kernel) (by decide +kernel)
def zlk {β : Type} (l : List (Nat × β)) (i : Nat) : Option β := match l with
  | [] => none
  | q :: t => match Nat.beq q.1 i with
    | true => some q.2
    | false => zlk t i
theorem zlk_mem {β : Type} : ∀ (l : List (Nat × β)) (i : Nat) (b : β), zlk l i = some b → (i, b) ∈ l
  | [], i, b, h => by simp [zlk] at h
  | q :: t, i, b, h => by
    simp only [zlk] at h
    split at h
    · rename_i e
      have e2 : q.1 = i := Nat.eq_of_beq_eq_true e
      cases h
      subst e2
      exact List.mem_cons_self
    · exact List.mem_cons_of_mem _ (zlk_mem t i b h)
def zfB (o : Nat) (q : Nat × Nat × Nat) : Bool := decide (q.2.1 < 5) && decide (q.2.2 < zcN q.2.1) && decide (Cond.fieldLink (zcn o) q.1 (zcn q.2.1) (zcT q.2.1 q.2.2).2.1 (zcT q.2.1 q.2.2).2.2.1 ∈ zt) && decide ((zcT q.2.1 q.2.2).1 = zcn q.2.1)
theorem zfB_ok : ∀ o, (zft o).all (zfB o) = true := by
  intro o
  match o with
  | 0 => decide +kernel
  | 1 => decide +kernel
  | 2 => decide +kernel
  | 3 => decide +kernel
  | 4 => decide +kernel
  | 5 => decide +kernel
  | n + 6 => rfl
theorem zf_ok {o i ci k : Nat} (h : zlk (zft o) i = some (ci, k)) : ci < 5 ∧ k < zcN ci ∧ Cond.fieldLink (zcn o) i (zcn ci) (zcT ci k).2.1 (zcT ci k).2.2.1 ∈ zt ∧ (zcT ci k).1 = zcn ci := by
  have h1 := List.all_eq_true.mp (zfB_ok o) _ (zlk_mem _ _ _ h)
  simp only [zfB, Bool.and_eq_true, decide_eq_true_eq] at h1
  exact ⟨h1.1.1.1, h1.1.1.2, h1.1.2, h1.2⟩
theorem zl_ok : ∀ (o i v : Nat), zlk (zlo o) i = some v → Cond.constantLong (zcn o) i (lN v) ∈ zt := by
  have key : ∀ o, (zlo o).all (fun q => decide (Cond.constantLong (zcn o) q.1 (lN q.2) ∈ zt)) = true := by
    intro o
    match o with
    | 0 => decide +kernel
    | 1 => decide +kernel
    | 2 => decide +kernel
    | 3 => decide +kernel
    | 4 => decide +kernel
    | 5 => decide +kernel
    | n + 6 => rfl
  intro o i v h
  have h1 := List.all_eq_true.mp (key o) _ (zlk_mem _ _ _ h)
  simpa using h1
theorem zw_ok : ∀ (o i v : Nat), zlk (zlw o) i = some v → Cond.constant (zcn o) i (nI v) ∈ zt := by
  have key : ∀ o, (zlw o).all (fun q => decide (Cond.constant (zcn o) q.1 (nI q.2) ∈ zt)) = true := by
    intro o
    match o with
    | 0 => decide +kernel
    | 1 => decide +kernel
    | 2 => decide +kernel
    | 3 => decide +kernel
    | 4 => decide +kernel
    | 5 => decide +kernel
    | 6 => decide +kernel
    | n + 7 => rfl
  intro o i v h
  have h1 := List.all_eq_true.mp (key o) _ (zlk_mem _ _ _ h)
  simpa using h1
def zlit (n : Int) : Int32 := match n with
  | .ofNat k => nI k
  | .negSucc k => -(nI (k + 1))
theorem zlit_ok (n : Int) : Int32.ofInt n = zlit n := by
  cases n with
  | ofNat k => rfl
  | negSucc k =>
    apply Int32.toBitVec_inj.mp
    show BitVec.ofInt 32 (Int.negSucc k) = -(BitVec.ofNat 32 (k + 1))
    rw [Int.negSucc_eq, BitVec.ofInt_neg]
    congr 1
/-- instructions in normal form: numbered locals, all small constants alike, absolute targets -/
def znorm (pc : Nat) (j : Instr) : Instr := match j with
  | .iload_n k => .iload k.val
  | .lload_n k => .lload k.val
  | .aload_n k => .aload k.val
  | .istore_n k => .istore k.val
  | .lstore_n k => .lstore k.val
  | .astore_n k => .astore k.val
  | .bipush n => if (Int8.ofInt n).toInt32 = zlit n then .iconst n else .nop
  | .sipush n => if (Int16.ofInt n).toInt32 = zlit n then .iconst n else .nop
  | .goto off => if 0 ≤ (pc : Int) + off then .goto ((pc : Int) + off) else .nop
  | .ifCond c off => if 0 ≤ (pc : Int) + off then .ifCond c ((pc : Int) + off) else .nop
  | .if_icmp c off => if 0 ≤ (pc : Int) + off then .if_icmp c ((pc : Int) + off) else .nop
  | j => j
def zlen (n : Nat) (j : Instr) : Nat := match j with
  | .bipush _ => 2
  | .sipush _ => 3
  | .iload _ => 2
  | .lload _ => 2
  | .aload _ => 2
  | .istore _ => 2
  | .lstore _ => 2
  | .astore _ => 2
  | .iinc _ _ => 3
  | .ldc _ => 2
  | .ldc_w _ => 3
  | .ldc2_w _ => 3
  | .getfield _ => 3
  | .putfield _ => 3
  | .getstatic _ => 3
  | .goto _ => 3
  | .ifCond _ _ => 3
  | .if_icmp _ _ => 3
  | .invokevirtual _ => 3
  | .invokespecial _ => 3
  | .invokestatic _ => 3
  | .new _ => 3
  | .anewarray _ => 3
  | .newarray _ => 2
  | .tableswitch _ _ _ _ => n
  | .lookupswitch _ _ => n
  | _ => 1
/-! patterns of the stack, of locals, of cells -/
def zI1 (st : List Value) (f : Int32 → List Value → Prop) : Prop := match st with
  | .int x :: r => f x r
  | _ => False
theorem zI1_inv {st : List Value} {f : Int32 → List Value → Prop} (h : zI1 st f) : ∃ x r, st = .int x :: r ∧ f x r := by
  unfold zI1 at h
  split at h
  · exact ⟨_, _, rfl, h⟩
  · exact h.elim
def zL1 (st : List Value) (f : Int64 → List Value → Prop) : Prop := match st with
  | .long x :: r => f x r
  | _ => False
theorem zL1_inv {st : List Value} {f : Int64 → List Value → Prop} (h : zL1 st f) : ∃ x r, st = .long x :: r ∧ f x r := by
  unfold zL1 at h
  split at h
  · exact ⟨_, _, rfl, h⟩
  · exact h.elim
def zRf (st : List Value) (f : Nat → List Value → Prop) : Prop := match st with
  | .ref x :: r => f x r
  | _ => False
theorem zRf_inv {st : List Value} {f : Nat → List Value → Prop} (h : zRf st f) : ∃ x r, st = .ref x :: r ∧ f x r := by
  unfold zRf at h
  split at h
  · exact ⟨_, _, rfl, h⟩
  · exact h.elim
def zI2 (st : List Value) (f : Int32 → Int32 → List Value → Prop) : Prop := match st with
  | .int y :: .int x :: r => f x y r
  | _ => False
theorem zI2_inv {st : List Value} {f : Int32 → Int32 → List Value → Prop} (h : zI2 st f) : ∃ x y r, st = .int y :: .int x :: r ∧ f x y r := by
  unfold zI2 at h
  split at h
  · exact ⟨_, _, _, rfl, h⟩
  · exact h.elim
def zL2 (st : List Value) (f : Int64 → Int64 → List Value → Prop) : Prop := match st with
  | .long y :: .long x :: r => f x y r
  | _ => False
theorem zL2_inv {st : List Value} {f : Int64 → Int64 → List Value → Prop} (h : zL2 st f) : ∃ x y r, st = .long y :: .long x :: r ∧ f x y r := by
  unfold zL2 at h
  split at h
  · exact ⟨_, _, _, rfl, h⟩
  · exact h.elim
def zLI (st : List Value) (f : Int64 → Int32 → List Value → Prop) : Prop := match st with
  | .int y :: .long x :: r => f x y r
  | _ => False
theorem zLI_inv {st : List Value} {f : Int64 → Int32 → List Value → Prop} (h : zLI st f) : ∃ x y r, st = .int y :: .long x :: r ∧ f x y r := by
  unfold zLI at h
  split at h
  · exact ⟨_, _, _, rfl, h⟩
  · exact h.elim
def zRI (st : List Value) (f : Nat → Int32 → List Value → Prop) : Prop := match st with
  | .int y :: .ref x :: r => f x y r
  | _ => False
theorem zRI_inv {st : List Value} {f : Nat → Int32 → List Value → Prop} (h : zRI st f) : ∃ x y r, st = .int y :: .ref x :: r ∧ f x y r := by
  unfold zRI at h
  split at h
  · exact ⟨_, _, _, rfl, h⟩
  · exact h.elim
def zRV (st : List Value) (f : Nat → Int32 → List Value → Prop) : Prop := match st with
  | .int y :: .ref x :: r => f x y r
  | _ => False
theorem zRV_inv {st : List Value} {f : Nat → Int32 → List Value → Prop} (h : zRV st f) : ∃ x y r, st = .int y :: .ref x :: r ∧ f x y r := by
  unfold zRV at h
  split at h
  · exact ⟨_, _, _, rfl, h⟩
  · exact h.elim
def zRIV (st : List Value) (f : Nat → Int32 → Int32 → List Value → Prop) : Prop := match st with
  | .int y :: .int i :: .ref x :: r => f x i y r
  | _ => False
theorem zRIV_inv {st : List Value} {f : Nat → Int32 → Int32 → List Value → Prop} (h : zRIV st f) : ∃ x i y r, st = .int y :: .int i :: .ref x :: r ∧ f x i y r := by
  unfold zRIV at h
  split at h
  · exact ⟨_, _, _, _, rfl, h⟩
  · exact h.elim
def zc1 (v : Value) : Bool := match v with
  | .long _ => false
  | .double _ => false
  | _ => true
theorem zc1_ok {v : Value} (h : zc1 v = true) (ad : Nat → Nat) : (zv ad v).category = 1 := by
  cases v <;> first | rfl | cases h
def zbr (b : Bool) (P : Prop) : Prop := match b with
  | true => P
  | false => False
theorem zbr_inv {b : Bool} {P : Prop} (h : zbr b P) : b = true ∧ P := by
  cases b with
  | true => exact ⟨rfl, h⟩
  | false => exact h.elim
def zV1 (st : List Value) (f : Value → List Value → Prop) : Prop := match st with
  | v :: r => zbr (zc1 v) (f v r)
  | _ => False
theorem zV1_inv {st : List Value} {f : Value → List Value → Prop} (h : zV1 st f) : ∃ v r, st = v :: r ∧ zc1 v = true ∧ f v r := by
  unfold zV1 at h
  split at h
  · exact ⟨_, _, rfl, (zbr_inv h).1, (zbr_inv h).2⟩
  · exact h.elim
def zV2 (st : List Value) (f : Value → Value → List Value → Prop) : Prop := match st with
  | v :: w :: r => zbr (zc1 v && zc1 w) (f v w r)
  | _ => False
theorem zV2_inv {st : List Value} {f : Value → Value → List Value → Prop} (h : zV2 st f) : ∃ v w r, st = v :: w :: r ∧ zc1 v = true ∧ zc1 w = true ∧ f v w r := by
  unfold zV2 at h
  split at h
  · have h1 := zbr_inv h
    have h2 := Bool.and_eq_true_iff.mp h1.1
    exact ⟨_, _, _, rfl, h2.1, h2.2, h1.2⟩
  · exact h.elim
def zIL (ls : List (Option Value)) (j : Nat) (f : Int32 → Prop) : Prop := match zg ls j with
  | some (some (.int x)) => f x
  | _ => False
theorem zIL_inv {ls : List (Option Value)} {j : Nat} {f : Int32 → Prop} (h : zIL ls j f) : ∃ x, ls[j]? = some (some (.int x)) ∧ f x := by
  unfold zIL at h
  split at h
  · rename_i x e
    exact ⟨x, by rw [← zg_eq]; exact e, h⟩
  · exact h.elim
def zLL (ls : List (Option Value)) (j : Nat) (f : Int64 → Prop) : Prop := match zg ls j with
  | some (some (.long x)) => f x
  | _ => False
theorem zLL_inv {ls : List (Option Value)} {j : Nat} {f : Int64 → Prop} (h : zLL ls j f) : ∃ x, ls[j]? = some (some (.long x)) ∧ f x := by
  unfold zLL at h
  split at h
  · rename_i x e
    exact ⟨x, by rw [← zg_eq]; exact e, h⟩
  · exact h.elim
def zAL (ls : List (Option Value)) (j : Nat) (f : Nat → Prop) : Prop := match zg ls j with
  | some (some (.ref x)) => f x
  | _ => False
theorem zAL_inv {ls : List (Option Value)} {j : Nat} {f : Nat → Prop} (h : zAL ls j f) : ∃ x, ls[j]? = some (some (.ref x)) ∧ f x := by
  unfold zAL at h
  split at h
  · rename_i x e
    exact ⟨x, by rw [← zg_eq]; exact e, h⟩
  · exact h.elim
def zArr (h : List ZC) (a t : Nat) (f : Nat → (Nat → Int32) → Prop) : Prop := match zg h a with
  | some (.inl x) => zbr (Nat.beq x.1 t) (f x.2.1 x.2.2)
  | _ => False
theorem zArr_inv {h : List ZC} {a t : Nat} {f : Nat → (Nat → Int32) → Prop} (hz : zArr h a t f) : ∃ n g, h[a]? = some (.inl (t, n, g)) ∧ f n g := by
  unfold zArr at hz
  split at hz
  · rename_i x e
    obtain ⟨h1, h2⟩ := zbr_inv hz
    have e2 := Nat.eq_of_beq_eq_true h1
    refine ⟨x.2.1, x.2.2, ?_, h2⟩
    rw [← zg_eq, e, ← e2]
  · exact hz.elim
def zObj (h : List ZC) (a ci : Nat) (f : List Value → Prop) : Prop := match zg h a with
  | some (.inr (.inl x)) => zbr (Nat.beq x.1 ci) (f x.2)
  | _ => False
theorem zObj_inv {h : List ZC} {a ci : Nat} {f : List Value → Prop} (hz : zObj h a ci f) : ∃ fs, h[a]? = some (.inr (.inl (ci, fs))) ∧ f fs := by
  unfold zObj at hz
  split at hz
  · rename_i x e
    obtain ⟨h1, h2⟩ := zbr_inv hz
    have e2 := Nat.eq_of_beq_eq_true h1
    refine ⟨x.2, ?_, h2⟩
    rw [← zg_eq, e, ← e2]
  · exact hz.elim
def zRef (h : List ZC) (a : Nat) (f : Nat → (Nat → Option Nat) → Prop) : Prop := match zg h a with
  | some (.inr (.inr x)) => f x.1 x.2
  | _ => False
theorem zRef_inv {h : List ZC} {a : Nat} {f : Nat → (Nat → Option Nat) → Prop} (hz : zRef h a f) : ∃ n g, h[a]? = some (.inr (.inr (n, g))) ∧ f n g := by
  unfold zRef at hz
  split at hz
  · rename_i x e
    exact ⟨x.1, x.2, by rw [← zg_eq, e], hz⟩
  · exact hz.elim
def zSo {α : Type} (o : Option α) (f : α → Prop) : Prop := match o with
  | some x => f x
  | none => False
theorem zSo_inv {α : Type} {o : Option α} {f : α → Prop} (h : zSo o f) : ∃ x, o = some x ∧ f x := by
  cases o with
  | none => exact h.elim
  | some x => exact ⟨x, rfl, h⟩
def zE1 (st : List Value) (f : Int32 → Prop) : Prop := match st with
  | [.int x] => f x
  | _ => False
theorem zE1_inv {st : List Value} {f : Int32 → Prop} (h : zE1 st f) : ∃ x, st = [.int x] ∧ f x := by
  unfold zE1 at h
  split at h
  · exact ⟨_, rfl, h⟩
  · exact h.elim
def zE0 (st : List Value) (f : Prop) : Prop := match st with
  | [] => f
  | _ => False
theorem zE0_inv {st : List Value} {f : Prop} (h : zE0 st f) : st = [] ∧ f := by
  unfold zE0 at h
  split at h
  · exact ⟨rfl, h⟩
  · exact h.elim
def zushr (x y : Int32) : Int32 := (x.toUInt32 >>> (y.toUInt32 &&& Int32.toUInt32 31)).toInt32
def zlushr (x : Int64) (y : Int32) : Int64 := (x.toUInt64 >>> (y.toInt64.toUInt64 &&& Int64.toUInt64 63)).toInt64
def zi2c (x : Int32) : Int32 := (x.toUInt32 % 65536).toInt32
def zof (o : Option Nat) : Value := match o with
  | some q => .ref q
  | none => .null
abbrev ZK : Type := List (Option Value) → List Value → List ZC → Prop
abbrev ZP : Type := Nat → List (Option Value) → List Value → List ZC → Prop
/-- what must hold so that an instruction in normal form goes on: behind it 'k', at a target 'C', at a return 'R1', 'R0' -/
def zi (own : Nat) (R1 : Int32 → List ZC → Prop) (R0 : List ZC → Prop) (C : ZP) (i : Instr) (ls : List (Option Value)) (st : List Value) (h : List ZC) (k : ZK) : Prop := match i with
  | .iconst n => k ls (.int (zlit n) :: st) h
  | .lconst n => k ls (.long (lN n.val) :: st) h
  | .ldc2_w idx => zSo (zlk (zlo own) idx) (fun v => k ls (.long (lN v) :: st) h)
  | .ldc_w idx => zSo (zlk (zlw own) idx) (fun v => k ls (.int (nI v) :: st) h)
  | .ldc idx => zSo (zlk (zlw own) idx) (fun v => k ls (.int (nI v) :: st) h)
  | .iload j => zIL ls j (fun x => k ls (.int x :: st) h)
  | .lload j => zLL ls j (fun x => k ls (.long x :: st) h)
  | .aload j => zAL ls j (fun x => k ls (.ref x :: st) h)
  | .istore j => zI1 st (fun x r => zbr (Nat.ble (j + 1) ls.length) (k (zst ls j (.int x)) r h))
  | .astore j => zRf st (fun x r => zbr (Nat.ble (j + 1) ls.length) (k (zst ls j (.ref x)) r h))
  | .lstore j => zL1 st (fun x r => zbr (Nat.ble (j + 2) ls.length) (k (zst2 ls j (.long x)) r h))
  | .iinc j n => zIL ls j (fun x => zbr (Nat.ble (j + 1) ls.length) (k (zst ls j (.int (x + zlit n))) st h))
  | .iadd => zI2 st (fun x y r => k ls (.int (x + y) :: r) h)
  | .isub => zI2 st (fun x y r => k ls (.int (x - y) :: r) h)
  | .imul => zI2 st (fun x y r => k ls (.int (x * y) :: r) h)
  | .iand => zI2 st (fun x y r => k ls (.int (x &&& y) :: r) h)
  | .ior => zI2 st (fun x y r => k ls (.int (x ||| y) :: r) h)
  | .ixor => zI2 st (fun x y r => k ls (.int (x ^^^ y) :: r) h)
  | .idiv => zI2 st (fun x y r => ¬ y = 0 ∧ k ls (.int (x / y) :: r) h)
  | .irem => zI2 st (fun x y r => ¬ y = 0 ∧ k ls (.int (x - x / y * y) :: r) h)
  | .ishl => zI2 st (fun x y r => k ls (.int (x <<< (y &&& 31)) :: r) h)
  | .ishr => zI2 st (fun x y r => k ls (.int (x >>> (y &&& 31)) :: r) h)
  | .iushr => zI2 st (fun x y r => k ls (.int (zushr x y) :: r) h)
  | .ladd => zL2 st (fun x y r => k ls (.long (x + y) :: r) h)
  | .lsub => zL2 st (fun x y r => k ls (.long (x - y) :: r) h)
  | .land => zL2 st (fun x y r => k ls (.long (x &&& y) :: r) h)
  | .lor => zL2 st (fun x y r => k ls (.long (x ||| y) :: r) h)
  | .lcmp => zL2 st (fun x y r => k ls (.int (lg_cmp x y) :: r) h)
  | .lshl => zLI st (fun x y r => k ls (.long (x <<< (y.toInt64 &&& 63)) :: r) h)
  | .lushr => zLI st (fun x y r => k ls (.long (zlushr x y) :: r) h)
  | .i2l => zI1 st (fun x r => k ls (.long x.toInt64 :: r) h)
  | .l2i => zL1 st (fun x r => k ls (.int x.toInt32 :: r) h)
  | .i2c => zI1 st (fun x r => k ls (.int (zi2c x) :: r) h)
  | .dup => zV1 st (fun v r => k ls (v :: v :: r) h)
  | .pop => zV1 st (fun _ r => k ls r h)
  | .dup2 => zV2 st (fun v w r => k ls (v :: w :: v :: w :: r) h)
  | .getfield idx => zSo (zlk (zft own) idx) (fun q => zRf st (fun a r => zObj h a q.1 (fun fs => zSo (zg fs q.2) (fun v => k ls (v :: r) h))))
  | .putfield idx => zSo (zlk (zft own) idx) (fun q => zRV st (fun a x r => zObj h a q.1 (fun fs => zbr (!(zcT q.1 q.2).2.2.2 && Nat.ble (q.2 + 1) fs.length) (k ls r (h.set a (.inr (.inl (q.1, fs.set q.2 (.int x)))))))))
  | .iaload => zRI st (fun a y r => zArr h a 0 (fun n f => vp_in y n ∧ k ls (.int (f y.toNatClampNeg) :: r) h))
  | .caload => zRI st (fun a y r => zArr h a 1 (fun n f => vp_in y n ∧ k ls (.int (f y.toNatClampNeg) :: r) h))
  | .baload => zRI st (fun a y r => zArr h a 2 (fun n f => vp_in y n ∧ k ls (.int (f y.toNatClampNeg) :: r) h))
  | .iastore => zRIV st (fun a y x r => zArr h a 0 (fun n f => vp_in y n ∧ k ls r (h.set a (.inl (0, n, upd f y.toNatClampNeg x)))))
  | .castore => zRIV st (fun a y x r => zArr h a 1 (fun n f => vp_in y n ∧ k ls r (h.set a (.inl (1, n, upd f y.toNatClampNeg (vp_nar .char x))))))
  | .bastore => zRIV st (fun a y x r => zArr h a 2 (fun n f => vp_in y n ∧ k ls r (h.set a (.inl (2, n, upd f y.toNatClampNeg (vp_nar .boolean x))))))
  | .aaload => zRI st (fun a y r => zRef h a (fun n f => vp_in y n ∧ k ls (zof (f y.toNatClampNeg) :: r) h))
  | .ifCond .eq t => zI1 st (fun x r => (x = 0 → C t.toNat ls r h) ∧ (¬ x = 0 → k ls r h))
  | .ifCond .ne t => zI1 st (fun x r => (¬ x = 0 → C t.toNat ls r h) ∧ (x = 0 → k ls r h))
  | .ifCond .lt t => zI1 st (fun x r => (x < 0 → C t.toNat ls r h) ∧ (¬ x < 0 → k ls r h))
  | .ifCond .ge t => zI1 st (fun x r => (0 ≤ x → C t.toNat ls r h) ∧ (¬ 0 ≤ x → k ls r h))
  | .ifCond .gt t => zI1 st (fun x r => (0 < x → C t.toNat ls r h) ∧ (¬ 0 < x → k ls r h))
  | .ifCond .le t => zI1 st (fun x r => (x ≤ 0 → C t.toNat ls r h) ∧ (¬ x ≤ 0 → k ls r h))
  | .if_icmp .eq t => zI2 st (fun x y r => (x = y → C t.toNat ls r h) ∧ (¬ x = y → k ls r h))
  | .if_icmp .ne t => zI2 st (fun x y r => (¬ x = y → C t.toNat ls r h) ∧ (x = y → k ls r h))
  | .if_icmp .lt t => zI2 st (fun x y r => (x < y → C t.toNat ls r h) ∧ (¬ x < y → k ls r h))
  | .if_icmp .ge t => zI2 st (fun x y r => (y ≤ x → C t.toNat ls r h) ∧ (¬ y ≤ x → k ls r h))
  | .if_icmp .gt t => zI2 st (fun x y r => (y < x → C t.toNat ls r h) ∧ (¬ y < x → k ls r h))
  | .if_icmp .le t => zI2 st (fun x y r => (x ≤ y → C t.toNat ls r h) ∧ (¬ x ≤ y → k ls r h))
  | .goto t => C t.toNat ls st h
  | .ireturn => zE1 st (fun x => R1 x h)
  | .return_ => zE0 st (R0 h)
  | _ => False
section ZSEC
variable {p : Program} {l : Launch} {e : Env} {R : Room} {s : State} {m : MethodId} {args : Array Value} {below : List Frame} {meth : Method} {c : Code} {Q : State → Prop}
variable {D : va_G} {cA : Nat → ClassId} {ad : Nat → Nat} {A : Nat → Prop} {kc ks : Nat} {cc : ByteArray} {nL own : Nat}
/-- the walk's state over abstract cells -/
def Z (p : Program) (l : Launch) (e : Env) (R : Room) (s : State) (m : MethodId) (args : Array Value) (below : List Frame) (meth : Method) (c : Code) (Q : State → Prop) (D : va_G) (cA : Nat → ClassId) (ad : Nat → Nat) (A : Nat → Prop) (kc ks : Nat) : ZP := fun pc ls st h =>
  ∀ (H : Heap) (locs : List Loc) (la : Array Slot), va_P D vwCl (zW cA ad h) H → va_D A (zW cA ad h) → va_S A s.heap H locs → zHas ad la ls → W p l e R s m args below meth c H locs kc ks Q (F0 m pc la (st.map (zv ad)))
variable {R1 : Int32 → List ZC → Prop} {R0 : List ZC → Prop} {ls : List (Option Value)} {st : List Value} {h : List ZC} {k : ZK}
set_option maxHeartbeats 4000000 in
theorem zi_ok (F : CallFix p m c cc nL s args zt (zcn own)) (hK : va_K D vwCl (zT cA) s)
    (hR1 : ∀ (pc : Nat) (x : Int32) (ls : List (Option Value)) (h : List ZC), decode cc pc = .ok (.ireturn, 1) → R1 x h → Z p l e R s m args below meth c Q D cA ad A kc ks pc ls [.int x] h)
    (hR0 : ∀ (pc : Nat) (ls : List (Option Value)) (h : List ZC), decode cc pc = .ok (.return_, 1) → R0 h → Z p l e R s m args below meth c Q D cA ad A kc ks pc ls [] h)
    {pc n : Nat} {i j : Instr} (hd : decode cc pc = .ok (j, n)) (hl : n = zlen n j) (hj : znorm pc j = i)
    (hz : zi own R1 R0 (Z p l e R s m args below meth c Q D cA ad A kc ks) i ls st h k) (hk : ∀ ls st h, k ls st h → Z p l e R s m args below meth c Q D cA ad A kc ks (pc + n) ls st h) : Z p l e R s m args below meth c Q D cA ad A kc ks pc ls st h := by
  cases j
  case iconst n =>
    subst hj
    simp only [zlen] at hl; subst hl
    intro H locs la hP hD hS hL
    exact lv_iconst F.1 F.2.1 hd (zlit_ok n) (hk _ _ _ hz H locs la hP hD hS hL)
  case bipush n =>
    simp only [znorm] at hj
    split at hj
    · rename_i hq
      subst hj
      simp only [zlen] at hl; subst hl
      intro H locs la hP hD hS hL
      exact lv_bipush F.1 F.2.1 hd hq (hk _ _ _ hz H locs la hP hD hS hL)
    · subst hj
      exact hz.elim
  case sipush n =>
    simp only [znorm] at hj
    split at hj
    · rename_i hq
      subst hj
      simp only [zlen] at hl; subst hl
      intro H locs la hP hD hS hL
      exact lv_sipush F.1 F.2.1 hd hq (hk _ _ _ hz H locs la hP hD hS hL)
    · subst hj
      exact hz.elim
  case lconst n =>
    subst hj
    simp only [zlen] at hl; subst hl
    intro H locs la hP hD hS hL
    exact lv_lconst F.1 F.2.1 hd rfl (hk _ _ _ hz H locs la hP hD hS hL)
  case ldc2_w idx =>
    subst hj
    simp only [zlen] at hl; subst hl
    obtain ⟨v, hv, hz1⟩ := zSo_inv hz
    intro H locs la hP hD hS hL
    exact lv_ldc2 F.1 F.2.1 F.2.2.2.1 (F.2.2.2.2 _ (zl_ok _ _ _ hv)) hd (hk _ _ _ hz1 H locs la hP hD hS hL)
  case ldc_w idx =>
    subst hj
    simp only [zlen] at hl; subst hl
    obtain ⟨v, hv, hz1⟩ := zSo_inv hz
    intro H locs la hP hD hS hL
    exact lv_ldcw F.1 F.2.1 F.2.2.2.1 (F.2.2.2.2 _ (zw_ok _ _ _ hv)) hd (hk _ _ _ hz1 H locs la hP hD hS hL)
  case ldc idx =>
    subst hj
    simp only [zlen] at hl; subst hl
    obtain ⟨v, hv, hz1⟩ := zSo_inv hz
    intro H locs la hP hD hS hL
    exact lv_ldc F.1 F.2.1 F.2.2.2.1 (F.2.2.2.2 _ (zw_ok _ _ _ hv)) hd (hk _ _ _ hz1 H locs la hP hD hS hL)
  case iload j =>
    subst hj
    simp only [zlen] at hl; subst hl
    obtain ⟨x, hx, hz1⟩ := zIL_inv hz
    intro H locs la hP hD hS hL
    exact lv_iload F.1 F.2.1 hd (hL.2.2 _ _ hx) (hk _ _ _ hz1 H locs la hP hD hS hL)
  case iload_n j =>
    subst hj
    simp only [zlen] at hl; subst hl
    obtain ⟨x, hx, hz1⟩ := zIL_inv hz
    intro H locs la hP hD hS hL
    exact lv_iload_n F.1 F.2.1 hd rfl (hL.2.2 _ _ hx) (hk _ _ _ hz1 H locs la hP hD hS hL)
  case lload j =>
    subst hj
    simp only [zlen] at hl; subst hl
    obtain ⟨x, hx, hz1⟩ := zLL_inv hz
    intro H locs la hP hD hS hL
    exact lv_lload F.1 F.2.1 hd (hL.2.2 _ _ hx) (hk _ _ _ hz1 H locs la hP hD hS hL)
  case lload_n j =>
    subst hj
    simp only [zlen] at hl; subst hl
    obtain ⟨x, hx, hz1⟩ := zLL_inv hz
    intro H locs la hP hD hS hL
    exact lv_lload_n F.1 F.2.1 hd rfl (hL.2.2 _ _ hx) (hk _ _ _ hz1 H locs la hP hD hS hL)
  case aload j =>
    subst hj
    simp only [zlen] at hl; subst hl
    obtain ⟨x, hx, hz1⟩ := zAL_inv hz
    intro H locs la hP hD hS hL
    exact lv_aload F.1 F.2.1 hd (hL.2.2 _ _ hx) (hk _ _ _ hz1 H locs la hP hD hS hL)
  case aload_n j =>
    subst hj
    simp only [zlen] at hl; subst hl
    obtain ⟨x, hx, hz1⟩ := zAL_inv hz
    intro H locs la hP hD hS hL
    exact lv_aload_n F.1 F.2.1 hd rfl (hL.2.2 _ _ hx) (hk _ _ _ hz1 H locs la hP hD hS hL)
  case istore j =>
    subst hj
    simp only [zlen] at hl; subst hl
    obtain ⟨x, r, rfl, hz1⟩ := zI1_inv hz
    obtain ⟨hb, hz2⟩ := zbr_inv hz1
    intro H locs la hP hD hS hL
    exact lv_istore F.1 F.2.1 hd (zHas_lv hL) (Nat.le_of_ble_eq_true hb) rfl (fun ls2 h2 => hk _ _ _ hz2 H locs ls2 hP hD hS (zHas_st h2))
  case istore_n j =>
    subst hj
    simp only [zlen] at hl; subst hl
    obtain ⟨x, r, rfl, hz1⟩ := zI1_inv hz
    obtain ⟨hb, hz2⟩ := zbr_inv hz1
    intro H locs la hP hD hS hL
    exact lv_istore_n F.1 F.2.1 hd rfl (zHas_lv hL) (Nat.le_of_ble_eq_true hb) rfl (fun ls2 h2 => hk _ _ _ hz2 H locs ls2 hP hD hS (zHas_st h2))
  case astore j =>
    subst hj
    simp only [zlen] at hl; subst hl
    obtain ⟨x, r, rfl, hz1⟩ := zRf_inv hz
    obtain ⟨hb, hz2⟩ := zbr_inv hz1
    intro H locs la hP hD hS hL
    exact lv_astore F.1 F.2.1 hd (zHas_lv hL) (Nat.le_of_ble_eq_true hb) rfl (fun ls2 h2 => hk _ _ _ hz2 H locs ls2 hP hD hS (zHas_st h2))
  case astore_n j =>
    subst hj
    simp only [zlen] at hl; subst hl
    obtain ⟨x, r, rfl, hz1⟩ := zRf_inv hz
    obtain ⟨hb, hz2⟩ := zbr_inv hz1
    intro H locs la hP hD hS hL
    exact lv_astore_n F.1 F.2.1 hd rfl (zHas_lv hL) (Nat.le_of_ble_eq_true hb) rfl (fun ls2 h2 => hk _ _ _ hz2 H locs ls2 hP hD hS (zHas_st h2))
  case lstore j =>
    subst hj
    simp only [zlen] at hl; subst hl
    obtain ⟨x, r, rfl, hz1⟩ := zL1_inv hz
    obtain ⟨hb, hz2⟩ := zbr_inv hz1
    intro H locs la hP hD hS hL
    exact lv_lstore F.1 F.2.1 hd (zHas_lv hL) (Nat.le_of_ble_eq_true hb) rfl (fun ls2 h2 => hk _ _ _ hz2 H locs ls2 hP hD hS (zHas_st2 h2))
  case lstore_n j =>
    subst hj
    simp only [zlen] at hl; subst hl
    obtain ⟨x, r, rfl, hz1⟩ := zL1_inv hz
    obtain ⟨hb, hz2⟩ := zbr_inv hz1
    intro H locs la hP hD hS hL
    exact lv_lstore_n F.1 F.2.1 hd rfl (zHas_lv hL) (Nat.le_of_ble_eq_true hb) rfl (fun ls2 h2 => hk _ _ _ hz2 H locs ls2 hP hD hS (zHas_st2 h2))
  case iinc j n =>
    subst hj
    simp only [zlen] at hl; subst hl
    obtain ⟨x, hx, hz1⟩ := zIL_inv hz
    obtain ⟨hb, hz2⟩ := zbr_inv hz1
    intro H locs la hP hD hS hL
    obtain ⟨q, hq⟩ := List.getElem?_of_mem (zLs_mem (ad := ad) (ls := ls) (q := (j, .int x)) |>.mpr ⟨.int x, hx, rfl⟩)
    exact lv_iinc F.1 F.2.1 hd (zHas_lv hL) hq (by rw [zlit_ok]) (Nat.le_of_ble_eq_true hb) rfl (fun ls2 h2 => hk _ _ _ hz2 H locs ls2 hP hD hS (zHas_st h2))
  case iadd =>
    subst hj
    simp only [zlen] at hl; subst hl
    obtain ⟨x, y, r, rfl, hz1⟩ := zI2_inv hz
    intro H locs la hP hD hS hL
    exact lv_iadd F.1 F.2.1 hd (hk _ _ _ hz1 H locs la hP hD hS hL)
  case isub =>
    subst hj
    simp only [zlen] at hl; subst hl
    obtain ⟨x, y, r, rfl, hz1⟩ := zI2_inv hz
    intro H locs la hP hD hS hL
    exact lv_isub F.1 F.2.1 hd (hk _ _ _ hz1 H locs la hP hD hS hL)
  case imul =>
    subst hj
    simp only [zlen] at hl; subst hl
    obtain ⟨x, y, r, rfl, hz1⟩ := zI2_inv hz
    intro H locs la hP hD hS hL
    exact lv_imul F.1 F.2.1 hd (hk _ _ _ hz1 H locs la hP hD hS hL)
  case iand =>
    subst hj
    simp only [zlen] at hl; subst hl
    obtain ⟨x, y, r, rfl, hz1⟩ := zI2_inv hz
    intro H locs la hP hD hS hL
    exact lv_iand F.1 F.2.1 hd (hk _ _ _ hz1 H locs la hP hD hS hL)
  case ior =>
    subst hj
    simp only [zlen] at hl; subst hl
    obtain ⟨x, y, r, rfl, hz1⟩ := zI2_inv hz
    intro H locs la hP hD hS hL
    exact lv_ior F.1 F.2.1 hd (hk _ _ _ hz1 H locs la hP hD hS hL)
  case ixor =>
    subst hj
    simp only [zlen] at hl; subst hl
    obtain ⟨x, y, r, rfl, hz1⟩ := zI2_inv hz
    intro H locs la hP hD hS hL
    exact lv_ixor F.1 F.2.1 hd (hk _ _ _ hz1 H locs la hP hD hS hL)
  case ishl =>
    subst hj
    simp only [zlen] at hl; subst hl
    obtain ⟨x, y, r, rfl, hz1⟩ := zI2_inv hz
    intro H locs la hP hD hS hL
    exact lv_ishl F.1 F.2.1 hd (hk _ _ _ hz1 H locs la hP hD hS hL)
  case ishr =>
    subst hj
    simp only [zlen] at hl; subst hl
    obtain ⟨x, y, r, rfl, hz1⟩ := zI2_inv hz
    intro H locs la hP hD hS hL
    exact lv_ishr F.1 F.2.1 hd (hk _ _ _ hz1 H locs la hP hD hS hL)
  case idiv =>
    subst hj
    simp only [zlen] at hl; subst hl
    obtain ⟨x, y, r, rfl, h0, hz1⟩ := zI2_inv hz
    intro H locs la hP hD hS hL
    exact lv_idiv F.1 F.2.1 hd h0 (hk _ _ _ hz1 H locs la hP hD hS hL)
  case irem =>
    subst hj
    simp only [zlen] at hl; subst hl
    obtain ⟨x, y, r, rfl, h0, hz1⟩ := zI2_inv hz
    intro H locs la hP hD hS hL
    exact lv_irem F.1 F.2.1 hd h0 (hk _ _ _ hz1 H locs la hP hD hS hL)
  case iushr =>
    subst hj
    simp only [zlen] at hl; subst hl
    obtain ⟨x, y, r, rfl, hz1⟩ := zI2_inv hz
    intro H locs la hP hD hS hL
    exact lv_iushr F.1 F.2.1 hd rfl (hk _ _ _ hz1 H locs la hP hD hS hL)
  case ladd =>
    subst hj
    simp only [zlen] at hl; subst hl
    obtain ⟨x, y, r, rfl, hz1⟩ := zL2_inv hz
    intro H locs la hP hD hS hL
    exact lv_ladd F.1 F.2.1 hd (hk _ _ _ hz1 H locs la hP hD hS hL)
  case lsub =>
    subst hj
    simp only [zlen] at hl; subst hl
    obtain ⟨x, y, r, rfl, hz1⟩ := zL2_inv hz
    intro H locs la hP hD hS hL
    exact lv_lsub F.1 F.2.1 hd (hk _ _ _ hz1 H locs la hP hD hS hL)
  case land =>
    subst hj
    simp only [zlen] at hl; subst hl
    obtain ⟨x, y, r, rfl, hz1⟩ := zL2_inv hz
    intro H locs la hP hD hS hL
    exact lv_land F.1 F.2.1 hd (hk _ _ _ hz1 H locs la hP hD hS hL)
  case lor =>
    subst hj
    simp only [zlen] at hl; subst hl
    obtain ⟨x, y, r, rfl, hz1⟩ := zL2_inv hz
    intro H locs la hP hD hS hL
    exact lv_lor F.1 F.2.1 hd (hk _ _ _ hz1 H locs la hP hD hS hL)
  case lcmp =>
    subst hj
    simp only [zlen] at hl; subst hl
    obtain ⟨x, y, r, rfl, hz1⟩ := zL2_inv hz
    intro H locs la hP hD hS hL
    exact W.lcmp F.1 F.2.1 hd (hk _ _ _ hz1 H locs la hP hD hS hL)
  case lshl =>
    subst hj
    simp only [zlen] at hl; subst hl
    obtain ⟨x, y, r, rfl, hz1⟩ := zLI_inv hz
    intro H locs la hP hD hS hL
    exact lv_lshl F.1 F.2.1 hd rfl (hk _ _ _ hz1 H locs la hP hD hS hL)
  case lushr =>
    subst hj
    simp only [zlen] at hl; subst hl
    obtain ⟨x, y, r, rfl, hz1⟩ := zLI_inv hz
    intro H locs la hP hD hS hL
    exact lv_lushr F.1 F.2.1 hd rfl (hk _ _ _ hz1 H locs la hP hD hS hL)
  case i2l =>
    subst hj
    simp only [zlen] at hl; subst hl
    obtain ⟨x, r, rfl, hz1⟩ := zI1_inv hz
    intro H locs la hP hD hS hL
    exact lv_i2l F.1 F.2.1 hd rfl (hk _ _ _ hz1 H locs la hP hD hS hL)
  case l2i =>
    subst hj
    simp only [zlen] at hl; subst hl
    obtain ⟨x, r, rfl, hz1⟩ := zL1_inv hz
    intro H locs la hP hD hS hL
    exact lv_l2i F.1 F.2.1 hd rfl (hk _ _ _ hz1 H locs la hP hD hS hL)
  case i2c =>
    subst hj
    simp only [zlen] at hl; subst hl
    obtain ⟨x, r, rfl, hz1⟩ := zI1_inv hz
    intro H locs la hP hD hS hL
    exact lv_i2c F.1 F.2.1 hd rfl (hk _ _ _ hz1 H locs la hP hD hS hL)
  case dup =>
    subst hj
    simp only [zlen] at hl; subst hl
    obtain ⟨v, r, rfl, hc, hz1⟩ := zV1_inv hz
    intro H locs la hP hD hS hL
    exact lv_dup F.1 F.2.1 hd (zc1_ok hc ad) (hk _ _ _ hz1 H locs la hP hD hS hL)
  case pop =>
    subst hj
    simp only [zlen] at hl; subst hl
    obtain ⟨v, r, rfl, hc, hz1⟩ := zV1_inv hz
    intro H locs la hP hD hS hL
    exact lv_pop F.1 F.2.1 hd (zc1_ok hc ad) (hk _ _ _ hz1 H locs la hP hD hS hL)
  case dup2 =>
    subst hj
    simp only [zlen] at hl; subst hl
    obtain ⟨v, w, r, rfl, hc, hc2, hz1⟩ := zV2_inv hz
    intro H locs la hP hD hS hL
    exact lv_dup2_11 F.1 F.2.1 hd (zc1_ok hc ad) (zc1_ok hc2 ad) (hk _ _ _ hz1 H locs la hP hD hS hL)
  case getfield idx =>
    subst hj
    simp only [zlen] at hl; subst hl
    obtain ⟨q, hq, hz1⟩ := zSo_inv hz
    obtain ⟨a, r, rfl, hz2⟩ := zRf_inv hz1
    obtain ⟨fs, ho, hz3⟩ := zObj_inv hz2
    obtain ⟨v, hv, hz4⟩ := zSo_inv hz3
    rw [zg_eq] at hv
    obtain ⟨g1, g2, g3, g4⟩ := zf_ok (ci := q.1) (k := q.2) hq
    intro H locs la hP hD hS hL
    exact va_get F.1 F.2.1 F.2.2.2.2 (zc_ws _ g1) F.2.2.2.1 hK hP a (zW_get ho) (zc_cl _ g1) q.2 g2 (F.2.2.2.2 _ g3) (fun _ hx => by rw [g4] at hx; exact hx) (show (fs.map (zv ad))[q.2]? = some (zv ad v) by simp [hv]) hd (hk _ _ _ hz4 H locs la hP hD hS hL)
  case putfield idx =>
    subst hj
    simp only [zlen] at hl; subst hl
    obtain ⟨q, hq, hz1⟩ := zSo_inv hz
    obtain ⟨a, x, r, rfl, hz2⟩ := zRV_inv hz1
    obtain ⟨fs, ho, hz3⟩ := zObj_inv hz2
    obtain ⟨hb, hz4⟩ := zbr_inv hz3
    obtain ⟨hb1, hb2⟩ := Bool.and_eq_true_iff.mp hb
    have hb1 : (zcT q.1 q.2).2.2.2 = false := by simpa using hb1
    have hb2 := Nat.le_of_ble_eq_true hb2
    obtain ⟨g1, g2, g3, g4⟩ := zf_ok (ci := q.1) (k := q.2) hq
    intro H locs la hP hD hS hL
    refine va_put F.1 F.2.1 F.2.2.2.2 (zc_ws _ g1) (zcty q.1) (zc_ty _ g1) (zc_nm _ g1) F.2.2.2.1 hK hP hD hS a (zW_get ho) (zc_cl _ g1) q.2 g2 (F.2.2.2.2 _ g3) (fun _ hx => by rw [g4] at hx; exact hx) hb1 (zc_int _ g1 _ g2 hb1) rfl rfl (by rw [List.length_map]; exact hb2) hd (fun H1 locs1 hP1 hD1 hS1 => ?_)
    have e1 : (zW cA ad h).set a (ad a, .inr (q.1, (fs.map (zv ad)).set q.2 (.int x))) = zW cA ad (h.set a (.inr (.inl (q.1, fs.set q.2 (.int x))))) := by
      rw [← zW_set]
      simp [zce, List.map_set, zv]
    exact hk _ _ _ hz4 H1 locs1 la (by rw [← e1]; exact hP1) (by rw [← e1]; exact hD1) hS1 hL
  case iaload =>
    subst hj
    simp only [zlen] at hl; subst hl
    obtain ⟨a, y, r, rfl, hz1⟩ := zRI_inv hz
    obtain ⟨n, f, ho, hin, hz2⟩ := zArr_inv hz1
    intro H locs la hP hD hS hL
    exact va_iald F.1 F.2.1 hK hP a 0 (zW_get ho) rfl hin hd (hk _ _ _ hz2 H locs la hP hD hS hL)
  case caload =>
    subst hj
    simp only [zlen] at hl; subst hl
    obtain ⟨a, y, r, rfl, hz1⟩ := zRI_inv hz
    obtain ⟨n, f, ho, hin, hz2⟩ := zArr_inv hz1
    intro H locs la hP hD hS hL
    exact va_cald F.1 F.2.1 hK hP a 1 (zW_get ho) rfl hin hd (hk _ _ _ hz2 H locs la hP hD hS hL)
  case baload =>
    subst hj
    simp only [zlen] at hl; subst hl
    obtain ⟨a, y, r, rfl, hz1⟩ := zRI_inv hz
    obtain ⟨n, f, ho, hin, hz2⟩ := zArr_inv hz1
    intro H locs la hP hD hS hL
    exact va_zald F.1 F.2.1 hK hP a 2 (zW_get ho) rfl hin hd (hk _ _ _ hz2 H locs la hP hD hS hL)
  case iastore =>
    subst hj
    simp only [zlen] at hl; subst hl
    obtain ⟨a, y, x, r, rfl, hz1⟩ := zRIV_inv hz
    obtain ⟨n, f, ho, hin, hz2⟩ := zArr_inv hz1
    intro H locs la hP hD hS hL
    refine va_iast F.1 F.2.1 hK hP hD hS a 0 (zW_get ho) rfl hin hd (fun H1 locs1 hP1 hD1 hS1 => ?_)
    have e1 : (zW cA ad h).set a (ad a, .inl (cA 0, n, .inl (upd f y.toNatClampNeg x))) = zW cA ad (h.set a (.inl (0, n, upd f y.toNatClampNeg x))) := by
      rw [← zW_set]
      rfl
    rw [e1] at hP1 hD1
    exact hk _ _ _ hz2 H1 locs1 la hP1 hD1 hS1 hL
  case castore =>
    subst hj
    simp only [zlen] at hl; subst hl
    obtain ⟨a, y, x, r, rfl, hz1⟩ := zRIV_inv hz
    obtain ⟨n, f, ho, hin, hz2⟩ := zArr_inv hz1
    intro H locs la hP hD hS hL
    refine va_cast F.1 F.2.1 hK hP hD hS a 1 (zW_get ho) rfl hin hd (fun H1 locs1 hP1 hD1 hS1 => ?_)
    have e1 : (zW cA ad h).set a (ad a, .inl (cA 1, n, .inl (upd f y.toNatClampNeg (vp_nar .char x)))) = zW cA ad (h.set a (.inl (1, n, upd f y.toNatClampNeg (vp_nar .char x)))) := by
      rw [← zW_set]
      rfl
    rw [e1] at hP1 hD1
    exact hk _ _ _ hz2 H1 locs1 la hP1 hD1 hS1 hL
  case bastore =>
    subst hj
    simp only [zlen] at hl; subst hl
    obtain ⟨a, y, x, r, rfl, hz1⟩ := zRIV_inv hz
    obtain ⟨n, f, ho, hin, hz2⟩ := zArr_inv hz1
    intro H locs la hP hD hS hL
    refine va_zast F.1 F.2.1 hK hP hD hS a 2 (zW_get ho) rfl hin hd (fun H1 locs1 hP1 hD1 hS1 => ?_)
    have e1 : (zW cA ad h).set a (ad a, .inl (cA 2, n, .inl (upd f y.toNatClampNeg (vp_nar .boolean x)))) = zW cA ad (h.set a (.inl (2, n, upd f y.toNatClampNeg (vp_nar .boolean x)))) := by
      rw [← zW_set]
      rfl
    rw [e1] at hP1 hD1
    exact hk _ _ _ hz2 H1 locs1 la hP1 hD1 hS1 hL
  case aaload =>
    subst hj
    simp only [zlen] at hl; subst hl
    obtain ⟨a, y, r, rfl, hz1⟩ := zRI_inv hz
    obtain ⟨n, f, ho, hin, hz2⟩ := zRef_inv hz1
    intro H locs la hP hD hS hL
    have e1 : va_rf ((f y.toNatClampNeg).map ad) = zv ad (zof (f y.toNatClampNeg)) := by cases f y.toNatClampNeg <;> rfl
    refine va_aldq F.1 F.2.1 hK hP a 3 (zW_get ho) rfl hin hd ?_
    rw [e1]
    exact hk _ _ _ hz2 H locs la hP hD hS hL
  case ifCond cd off =>
    simp only [znorm] at hj
    split at hj
    · rename_i hq
      subst hj
      simp only [zlen] at hl; subst hl
      have hq' : (pc : Int) + off = (((pc : Int) + off).toNat : Int) := (Int.toNat_of_nonneg hq).symm
      cases cd with
      | eq =>
        obtain ⟨x, r, rfl, h1, h2⟩ := zI1_inv hz
        intro H locs la hP hD hS hL
        exact lv_if_eq F.1 F.2.1 hd hq' (fun q => h1 q H locs la hP hD hS hL) (fun q => hk _ _ _ (h2 q) H locs la hP hD hS hL)
      | ne =>
        obtain ⟨x, r, rfl, h1, h2⟩ := zI1_inv hz
        intro H locs la hP hD hS hL
        exact lv_if_ne F.1 F.2.1 hd hq' (fun q => h1 q H locs la hP hD hS hL) (fun q => hk _ _ _ (h2 q) H locs la hP hD hS hL)
      | lt =>
        obtain ⟨x, r, rfl, h1, h2⟩ := zI1_inv hz
        intro H locs la hP hD hS hL
        exact lv_if_lt F.1 F.2.1 hd hq' (fun q => h1 q H locs la hP hD hS hL) (fun q => hk _ _ _ (h2 q) H locs la hP hD hS hL)
      | ge =>
        obtain ⟨x, r, rfl, h1, h2⟩ := zI1_inv hz
        intro H locs la hP hD hS hL
        exact lv_if_ge F.1 F.2.1 hd hq' (fun q => h1 q H locs la hP hD hS hL) (fun q => hk _ _ _ (h2 q) H locs la hP hD hS hL)
      | gt =>
        obtain ⟨x, r, rfl, h1, h2⟩ := zI1_inv hz
        intro H locs la hP hD hS hL
        exact lv_if_gt F.1 F.2.1 hd hq' (fun q => h1 q H locs la hP hD hS hL) (fun q => hk _ _ _ (h2 q) H locs la hP hD hS hL)
      | le =>
        obtain ⟨x, r, rfl, h1, h2⟩ := zI1_inv hz
        intro H locs la hP hD hS hL
        exact lv_if_le F.1 F.2.1 hd hq' (fun q => h1 q H locs la hP hD hS hL) (fun q => hk _ _ _ (h2 q) H locs la hP hD hS hL)
    · subst hj
      exact hz.elim
  case if_icmp cd off =>
    simp only [znorm] at hj
    split at hj
    · rename_i hq
      subst hj
      simp only [zlen] at hl; subst hl
      have hq' : (pc : Int) + off = (((pc : Int) + off).toNat : Int) := (Int.toNat_of_nonneg hq).symm
      cases cd with
      | eq =>
        obtain ⟨x, y, r, rfl, h1, h2⟩ := zI2_inv hz
        intro H locs la hP hD hS hL
        exact lv_icmp_eq F.1 F.2.1 hd hq' (fun q => h1 q H locs la hP hD hS hL) (fun q => hk _ _ _ (h2 q) H locs la hP hD hS hL)
      | ne =>
        obtain ⟨x, y, r, rfl, h1, h2⟩ := zI2_inv hz
        intro H locs la hP hD hS hL
        exact lv_icmp_ne F.1 F.2.1 hd hq' (fun q => h1 q H locs la hP hD hS hL) (fun q => hk _ _ _ (h2 q) H locs la hP hD hS hL)
      | lt =>
        obtain ⟨x, y, r, rfl, h1, h2⟩ := zI2_inv hz
        intro H locs la hP hD hS hL
        exact lv_icmp_lt F.1 F.2.1 hd hq' (fun q => h1 q H locs la hP hD hS hL) (fun q => hk _ _ _ (h2 q) H locs la hP hD hS hL)
      | ge =>
        obtain ⟨x, y, r, rfl, h1, h2⟩ := zI2_inv hz
        intro H locs la hP hD hS hL
        exact lv_icmp_ge F.1 F.2.1 hd hq' (fun q => h1 q H locs la hP hD hS hL) (fun q => hk _ _ _ (h2 q) H locs la hP hD hS hL)
      | gt =>
        obtain ⟨x, y, r, rfl, h1, h2⟩ := zI2_inv hz
        intro H locs la hP hD hS hL
        exact lv_icmp_gt F.1 F.2.1 hd hq' (fun q => h1 q H locs la hP hD hS hL) (fun q => hk _ _ _ (h2 q) H locs la hP hD hS hL)
      | le =>
        obtain ⟨x, y, r, rfl, h1, h2⟩ := zI2_inv hz
        intro H locs la hP hD hS hL
        exact lv_icmp_le F.1 F.2.1 hd hq' (fun q => h1 q H locs la hP hD hS hL) (fun q => hk _ _ _ (h2 q) H locs la hP hD hS hL)
    · subst hj
      exact hz.elim
  case goto off =>
    simp only [znorm] at hj
    split at hj
    · rename_i hq
      subst hj
      simp only [zlen] at hl; subst hl
      have hq' : (pc : Int) + off = (((pc : Int) + off).toNat : Int) := (Int.toNat_of_nonneg hq).symm
      intro H locs la hP hD hS hL
      exact lv_goto F.1 F.2.1 hd hq' (hz H locs la hP hD hS hL)
    · subst hj
      exact hz.elim
  case ireturn =>
    subst hj
    simp only [zlen] at hl; subst hl
    obtain ⟨x, rfl, hz1⟩ := zE1_inv hz
    exact hR1 pc x ls h hd hz1
  case return_ =>
    subst hj
    simp only [zlen] at hl; subst hl
    obtain ⟨rfl, hz1⟩ := zE0_inv hz
    exact hR0 pc ls h hd hz1
  all_goals (subst hj; exact hz.elim)
end ZSEC
