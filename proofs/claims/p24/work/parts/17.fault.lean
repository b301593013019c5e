/-! Pad.firstFault -/
def zbh (ps : Nat → Int32) (n i p : Nat) : Bool := decide (p = 0) && (decide (0 < i) && decide (¬ zSg ps n (i - 1) = nI 33))
/-- the text read on from the place i, where the sign of place p of a bill is due, k signs to go -/
def zSc (ps : Nat → Int32) (n : Nat) : Nat → Nat → Nat → Int32
  | 0, _, p => if n = 0 ∨ ¬ p = 0 then nI n else -(nI 6)
  | k + 1, i, p => match zbh ps n i p && decide (zSg ps n i = nI 33) with
    | true => zSc ps n k (i + 1) p
    | false => match zFt ps n i p with
      | true => zSc ps n k (i + 1) (if p = 2 then 0 else p + 1)
      | false => nI i
theorem nI0_iff {n : Nat} (h : n < 2 ^ 31) : nI n = 0 ↔ n = 0 := by
  rw [show (0 : Int32) = nI 0 from rfl, nI_eq h (by decide)]
set_option maxHeartbeats 2000000 in
set_option maxRecDepth 20000 in
theorem mX2_firstFault (ps : Nat → Int32) (pl : Int32) (n : Nat) (hw : WP ps pl n) : ZM yX2_firstFault cX2_firstFault 4 (some .int) 3 65 [.ref 0] (hP ps pl) (some (.int (zSc ps n n 0 0))) (hP ps pl) := by
  refine zm_of 2 qX2_firstFault rfl rfl kX2_firstFault rfl (Nat.le_of_ble_eq_true rfl) (fun C hC0 => ?_)
  have hn := hw.2.1
  have key : ∀ (k i p : Nat) (o : Option Value), i + k = n → p < 3 → zSc ps n k i p = zSc ps n n 0 0 → C 4 [some (.ref 0), some (.int (nI p)), some (.int (nI i)), o] [] (hP ps pl) := by
    intro k
    induction k with
    | zero =>
      intro i p o hi hp hz
      refine zgo hC0 4 4 rfl ?_
      refine And.intro (fun _ => ?_) (fun (c : ¬ pl ≤ nI i) => absurd (by rw [hw.1]; exact nI_le (by omega) (by omega)) c)
      rw [zSc] at hz
      have last : (n = 0 ∨ ¬ p = 0) → C 92 [some (.ref 0), some (.int (nI p)), some (.int (nI i)), o] [] (hP ps pl) := by
        intro hq
        rw [if_pos hq] at hz
        refine zgo hC0 52 3 rfl ?_
        refine zgo hC0 56 1 rfl ?_
        exact zret_i (by rw [← hz, hw.1])
      refine zgo hC0 47 3 rfl ?_
      refine And.intro (fun (c : pl = 0) => last (Or.inl ?_)) (fun (c : ¬ pl = 0) => ?_)
      · rw [hw.1] at c
        exact (nI0_iff (by omega)).mp c
      · have hn0 : ¬ n = 0 := fun q => c (by rw [hw.1, q]; rfl)
        refine zgo hC0 50 2 rfl ?_
        refine And.intro (fun (c2 : nI p = 0) => ?_) (fun (c2 : ¬ nI p = 0) => last (Or.inr (fun q => c2 (by rw [q]; rfl))))
        have hp0 : p = 0 := (nI0_iff (by omega)).mp c2
        rw [if_neg (fun q => q.elim hn0 (fun r => r hp0))] at hz
        refine zgo hC0 55 2 rfl ?_
        exact zret_i hz.symm
    | succ k ih =>
      intro i p o hi hp hz
      refine zgo hC0 4 4 rfl ?_
      refine And.intro (fun (c : pl ≤ nI i) => absurd c (by rw [hw.1]; exact nI_ge (by omega) (by omega))) (fun _ => ?_)
      rw [zSc] at hz
      have at51 : ∀ b : Bool, (zbh ps n i p && decide (zSg ps n i = nI 33)) = false → C 51 [some (.ref 0), some (.int (nI p)), some (.int (nI i)), some (.int (b2i b))] [] (hP ps pl) := by
        intro b hb
        rw [hb] at hz
        refine zgo hC0 29 3 rfl ?_
        refine zcallV hC0 (mX2_fits ps pl n i p hw (by omega) hp) vX2_fits lk2_46 (by decide +kernel : decode cX2_firstFault 54 = .ok (.invokevirtual 46, 3)) rfl rfl rfl (Nat.le_of_ble_eq_true rfl) (Nat.le_of_ble_eq_true rfl) (Nat.le_of_ble_eq_true rfl) ?_
        refine zgo hC0 33 1 rfl ?_
        refine And.intro (fun c => ?_) (fun c => ?_)
        · have c1 := b2i_t c
          rw [c1] at hz
          refine zgo hC0 36 3 rfl ?_
          refine And.intro (fun (c2 : ¬ nI p = nI 2) => ?_) (fun (c2 : nI p = nI 2) => ?_)
          · have hp2 : ¬ p = 2 := fun q => c2 (by rw [q])
            refine zgo hC0 41 4 rfl ?_
            rw [if_neg hp2] at hz
            refine zgo hC0 45 2 rfl ?_
            show C 4 [some (.ref 0), some (.int (nI p + nI 1)), some (.int (nI i + nI 1)), some (.int (b2i b))] [] (hP ps pl)
            rw [nI_add, nI_add]
            exact ih (i + 1) (p + 1) _ (by omega) (by omega) hz
          · have hp2 : p = 2 := (nI_eq (by omega) (by decide)).mp c2
            rw [if_pos hp2] at hz
            refine zgo hC0 39 2 rfl ?_
            refine zgo hC0 44 3 rfl ?_
            show C 4 [some (.ref 0), some (.int (nI 0)), some (.int (nI i + nI 1)), some (.int (b2i b))] [] (hP ps pl)
            rw [nI_add]
            exact ih (i + 1) 0 _ (by omega) (by omega) hz
        · rw [b2i_f c] at hz
          refine zgo hC0 34 2 rfl ?_
          exact zret_i hz.symm
      have at35 : ∀ b : Bool, b = zbh ps n i p → C 35 [some (.ref 0), some (.int (nI p)), some (.int (nI i)), o] [.int (b2i b)] (hP ps pl) := by
        intro b hb
        refine zgo hC0 21 3 rfl ?_
        refine And.intro (fun c => at51 b (zand_f1 (hb.symm.trans (b2i_f c)))) (fun c => ?_)
        refine zgo hC0 24 2 rfl ?_
        refine zcallV hC0 (mX2_endsSessionAt ps pl n i hw (by omega)) vX2_endsSessionAt lk2_43 (by decide +kernel : decode cX2_firstFault 42 = .ok (.invokevirtual 43, 3)) rfl rfl rfl (Nat.le_of_ble_eq_true rfl) (Nat.le_of_ble_eq_true rfl) (Nat.le_of_ble_eq_true rfl) ?_
        refine zgo hC0 27 1 rfl ?_
        refine And.intro (fun c2 => at51 b (zand_f2 (b2i_f c2))) (fun c2 => ?_)
        rw [zand_t (hb.symm.trans (b2i_t c)) (b2i_t c2)] at hz
        refine zgo hC0 28 1 rfl ?_
        refine zgo hC0 45 2 rfl ?_
        show C 4 [some (.ref 0), some (.int (nI p)), some (.int (nI i + nI 1)), some (.int (b2i b))] [] (hP ps pl)
        rw [nI_add]
        exact ih (i + 1) p _ (by omega) hp hz
      have at34 : zbh ps n i p = false → C 34 [some (.ref 0), some (.int (nI p)), some (.int (nI i)), o] [] (hP ps pl) := by
        intro hb
        refine zgo hC0 20 1 rfl ?_
        exact at35 false hb.symm
      refine zgo hC0 8 2 rfl ?_
      refine And.intro (fun (c : ¬ nI p = 0) => at34 (zand_f1 (decide_eq_false (fun q => c (by rw [q]; rfl))))) (fun (c : nI p = 0) => ?_)
      have hp0 : p = 0 := (nI0_iff (by omega)).mp c
      refine zgo hC0 10 2 rfl ?_
      refine And.intro (fun (c2 : nI i ≤ 0) => at34 (zand_f2 (zand_f1 (decide_eq_false (fun q => absurd c2 (nI_nle q (by omega))))))) (fun (c2 : ¬ nI i ≤ 0) => ?_)
      have hi0 : 0 < i := by
        rcases Nat.eq_zero_or_pos i with q | q
        · exact absurd (by rw [q]; decide) c2
        · exact q
      refine zgo hC0 12 4 rfl ?_
      show C 24 [some (.ref 0), some (.int (nI p)), some (.int (nI i)), o] [.int (nI i - nI 1), .ref 0] (hP ps pl)
      rw [pk_sub hi0]
      refine zcallV hC0 (mX2_endsSessionAt ps pl n (i - 1) hw (by omega)) vX2_endsSessionAt lk2_43 (by decide +kernel : decode cX2_firstFault 24 = .ok (.invokevirtual 43, 3)) rfl rfl rfl (Nat.le_of_ble_eq_true rfl) (Nat.le_of_ble_eq_true rfl) (Nat.le_of_ble_eq_true rfl) ?_
      refine zgo hC0 17 1 rfl ?_
      refine And.intro (fun c3 => at34 (zand_f2 (zand_f2 (decide_eq_false (fun q => q (of_decide_eq_true (b2i_t c3))))))) (fun c3 => ?_)
      refine zgo hC0 18 2 rfl ?_
      exact at35 true (by rw [zbh, decide_eq_true hp0, decide_eq_true hi0, decide_eq_true (of_decide_eq_false (b2i_f c3))]; rfl)
  refine zgo hC0 0 4 rfl ?_
  exact key n 0 0 _ (by omega) (by decide) rfl
