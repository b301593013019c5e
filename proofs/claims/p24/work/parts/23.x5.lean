/-! RepealedLaws: voteOn, read, signsIn, put -/
def zPass (v : CV) (l t s : Int32) (n : Nat) : Bool := !zFull v && decide (zRA v l t s (zBR v l t s n) n = nI 0)
theorem zFull_n {v : CV} {n : Nat} (hm : WM v n) (h : zFull v = false) : n < 80 := by
  rw [zFull] at h
  have h1 := of_decide_eq_false h
  have h2 : nI n < nI 80 := by rw [← hm.1]; exact Classical.not_not.mp h1
  exact (nI_ltI (by have := hm.2; omega) (by decide)).mp h2
theorem zPass_n {v : CV} {l t s : Int32} {n : Nat} (hm : WM v n) (h : zPass v l t s n = true) : n < 80 := by
  simp only [zPass, Bool.and_eq_true, Bool.not_eq_true'] at h
  exact zFull_n hm h.1
set_option maxHeartbeats 2000000 in
set_option maxRecDepth 20000 in
theorem mX3_voteOn_f (v : CV) (hv : Nat → CV) (ho hk : Int32) (sv : Nat → CV) (fl ps : Nat → Int32) (pl l t s : Int32) (n : Nat) (hm : WM v n) (hp : zPass v l t s n = false) : ZM yX3_voteOn cX3_voteOn 5 (some .boolean) 4 100 [.ref 0, .int l, .int t, .int s] (hX v hv ho hk sv fl ps pl) (some (.int (b2i false))) (hX v hv ho hk sv fl ps pl) := by
  refine zm_of 3 qX3_voteOn rfl rfl kX3_voteOn rfl (Nat.le_of_ble_eq_true rfl) (fun C hC0 => ?_)
  have at37 : ∀ o : Option Value, C 37 [some (.ref 0), some (.int l), some (.int t), some (.int s), o] [] (hX v hv ho hk sv fl ps pl) := by
    intro o
    refine zgo hC0 19 2 rfl ?_
    exact zret_b rfl
  refine zgo hC0 0 5 rfl ?_
  refine zcallVb hC0 (mX0_bestRepealFor v l t s n hm) (zX_C v hv ho hk sv fl ps pl v) rfl (Nat.le_of_ble_eq_true rfl) vX0_bestRepealFor lk3_204 (by decide +kernel : decode cX3_voteOn 7 = .ok (.invokevirtual 204, 3)) rfl rfl rfl (Nat.le_of_ble_eq_true rfl) (Nat.le_of_ble_eq_true rfl) (Nat.le_of_ble_eq_true rfl) ?_
  refine zgo hC0 6 3 rfl ?_
  refine zcallVb hC0 (mX0_isFull v) (zX_C v hv ho hk sv fl ps pl v) rfl (Nat.le_of_ble_eq_true rfl) vX0_isFull lk3_193 (by decide +kernel : decode cX3_voteOn 16 = .ok (.invokevirtual 193, 3)) rfl rfl rfl (Nat.le_of_ble_eq_true rfl) (Nat.le_of_ble_eq_true rfl) (Nat.le_of_ble_eq_true rfl) ?_
  refine zgo hC0 10 1 rfl ?_
  refine And.intro (fun _ => at37 _) (fun c => ?_)
  refine zgo hC0 11 6 rfl ?_
  refine zcallVb hC0 (mX0_reasonAgainst v l t s (zBR v l t s n) n hm) (zX_C v hv ho hk sv fl ps pl v) rfl (Nat.le_of_ble_eq_true rfl) vX0_reasonAgainst lk3_197 (by decide +kernel : decode cX3_voteOn 31 = .ok (.invokevirtual 197, 3)) rfl rfl rfl (Nat.le_of_ble_eq_true rfl) (Nat.le_of_ble_eq_true rfl) (Nat.le_of_ble_eq_true rfl) ?_
  refine zgo hC0 18 1 rfl ?_
  refine And.intro (fun (c2 : zRA v l t s (zBR v l t s n) n = nI 0) => ?_) (fun _ => at37 _)
  rw [zPass, zFull, b2i_f c, decide_eq_true c2] at hp
  cases hp
set_option maxHeartbeats 2000000 in
set_option maxRecDepth 20000 in
theorem mX3_voteOn_t (v : CV) (hv : Nat → CV) (ho hk : Int32) (sv : Nat → CV) (fl ps : Nat → Int32) (pl l t s : Int32) (n : Nat) (hm : WM v n) (hp : zPass v l t s n = true) : ZM yX3_voteOn cX3_voteOn 5 (some .boolean) 4 100 [.ref 0, .int l, .int t, .int s] (hX v hv ho hk sv fl ps pl) (some (.int (b2i true))) (hX (zEN v l t s (zBR v l t s n) n) hv ho hk sv fl ps pl) := by
  refine zm_of 3 qX3_voteOn rfl rfl kX3_voteOn rfl (Nat.le_of_ble_eq_true rfl) (fun C hC0 => ?_)
  have hn := zPass_n hm hp
  simp only [zPass, Bool.and_eq_true, Bool.not_eq_true', decide_eq_true_eq] at hp
  refine zgo hC0 0 5 rfl ?_
  refine zcallVb hC0 (mX0_bestRepealFor v l t s n hm) (zX_C v hv ho hk sv fl ps pl v) rfl (Nat.le_of_ble_eq_true rfl) vX0_bestRepealFor lk3_204 (by decide +kernel : decode cX3_voteOn 7 = .ok (.invokevirtual 204, 3)) rfl rfl rfl (Nat.le_of_ble_eq_true rfl) (Nat.le_of_ble_eq_true rfl) (Nat.le_of_ble_eq_true rfl) ?_
  refine zgo hC0 6 3 rfl ?_
  refine zcallVb hC0 (mX0_isFull v) (zX_C v hv ho hk sv fl ps pl v) rfl (Nat.le_of_ble_eq_true rfl) vX0_isFull lk3_193 (by decide +kernel : decode cX3_voteOn 16 = .ok (.invokevirtual 193, 3)) rfl rfl rfl (Nat.le_of_ble_eq_true rfl) (Nat.le_of_ble_eq_true rfl) (Nat.le_of_ble_eq_true rfl) ?_
  refine zgo hC0 10 1 rfl ?_
  refine And.intro (fun c => ?_) (fun _ => ?_)
  · exact absurd ((show zFull v = true from b2i_t c).symm.trans hp.1) (by simp)
  refine zgo hC0 11 6 rfl ?_
  refine zcallVb hC0 (mX0_reasonAgainst v l t s (zBR v l t s n) n hm) (zX_C v hv ho hk sv fl ps pl v) rfl (Nat.le_of_ble_eq_true rfl) vX0_reasonAgainst lk3_197 (by decide +kernel : decode cX3_voteOn 31 = .ok (.invokevirtual 197, 3)) rfl rfl rfl (Nat.le_of_ble_eq_true rfl) (Nat.le_of_ble_eq_true rfl) (Nat.le_of_ble_eq_true rfl) ?_
  refine zgo hC0 18 1 rfl ?_
  refine And.intro (fun _ => ?_) (fun c => absurd hp.2 c)
  refine zgo hC0 21 6 rfl ?_
  refine zcallVb hC0 (mX0_enact v l t s (zBR v l t s n) n hm hn) (zX_C v hv ho hk sv fl ps pl (zEN v l t s (zBR v l t s n) n)) rfl (Nat.le_of_ble_eq_true rfl) vX0_enact lk3_74 (by decide +kernel : decode cX3_voteOn 48 = .ok (.invokevirtual 74, 3)) rfl rfl rfl (Nat.le_of_ble_eq_true rfl) (Nat.le_of_ble_eq_true rfl) (Nat.le_of_ble_eq_true rfl) ?_
  refine zgo hC0 28 3 rfl ?_
  exact zret_b rfl
def mk (v : CV) : Nat := (v 9 0).toNatClampNeg
theorem mk_eq {v : CV} {n : Nat} (hm : WM v n) : mk v = n := by rw [mk, hm.1]; exact nI_clamp (by have := hm.2; omega)
theorem WM_EL {v : CV} {n : Nat} {x w : Int32} (hm : WM v n) : WM (zEL v x w) n := by
  refine ⟨?_, hm.2⟩
  rw [zEL]
  cases zL v x with
  | true => exact hm.1
  | false => exact hm.1
theorem WM_EN {v : CV} {l t s x : Int32} {n : Nat} (hn : n < 80) : WM (zEN v l t s x n) (n + 1) := WM_EL ⟨rfl, hn⟩
def zVo (v : CV) (l t s : Int32) : CV := match zPass v l t s (mk v) with
  | true => zEN v l t s (zBR v l t s (mk v)) (mk v)
  | false => vup v 11 (upd (v 11) 0 (v 11 0 + nI 1))
def zVc (v : CV) (l t s : Int32) (c : Nat) : Nat := match zPass v l t s (mk v) with
  | true => c + 1
  | false => c
theorem WM_Vo {v : CV} {l t s : Int32} {n : Nat} (hm : WM v n) : ∃ n', WM (zVo v l t s) n' := by
  rw [zVo]
  cases h : zPass v l t s (mk v) with
  | true => exact ⟨_, WM_EN (by rw [mk_eq hm] at h ⊢; exact zPass_n hm h)⟩
  | false => exact ⟨n, hm⟩
/-- the bills from the place i on, one after the other, f of them at most: the code then, how many passed -/
def zRd (ps : Nat → Int32) (q : Nat) : Nat → Nat → CV → Nat → CV × Nat
  | 0, _, v, c => (v, c)
  | f + 1, i, v, c => if i + 2 < q then
      (if zSg ps q (i + 3) = nI 33 then zRd ps q f (i + 4) (zSe (zVo v (zSg ps q i - nI 48) (zSg ps q (i + 1) - nI 48) (zSt (zSg ps q (i + 2))))) (zVc v (zSg ps q i - nI 48) (zSg ps q (i + 1) - nI 48) (zSt (zSg ps q (i + 2))) c)
      else zRd ps q f (i + 3) (zVo v (zSg ps q i - nI 48) (zSg ps q (i + 1) - nI 48) (zSt (zSg ps q (i + 2)))) (zVc v (zSg ps q i - nI 48) (zSg ps q (i + 1) - nI 48) (zSt (zSg ps q (i + 2))) c))
    else (v, c)
set_option maxHeartbeats 2000000 in
set_option maxRecDepth 20000 in
theorem mX3_read_f (v : CV) (hv : Nat → CV) (ho hk : Int32) (sv : Nat → CV) (fl ps : Nat → Int32) (pl : Int32) (q : Nat) (hw : WP ps pl q) (hf : ¬ zSc ps q q 0 0 = -(nI 6)) : ZM yX3_read cX3_read 3 (some .int) 5 124 [.ref 0] (hX v hv ho hk sv fl ps pl) (some (.int (-(nI 3)))) (hX v hv ho hk sv fl ps pl) := by
  refine zm_of 3 qX3_read rfl rfl kX3_read rfl (Nat.le_of_ble_eq_true rfl) (fun C hC0 => ?_)
  refine zgo hC0 0 2 rfl ?_
  refine zcallVb hC0 (mX2_firstFault ps pl q hw) (zX_P v hv ho hk sv fl ps pl ps pl) rfl (Nat.le_of_ble_eq_true rfl) vX2_firstFault lk3_98 (by decide +kernel : decode cX3_read 4 = .ok (.invokevirtual 98, 3)) rfl rfl rfl (Nat.le_of_ble_eq_true rfl) (Nat.le_of_ble_eq_true rfl) (Nat.le_of_ble_eq_true rfl) ?_
  refine zgo hC0 3 2 rfl ?_
  refine And.intro (fun c => absurd c hf) (fun _ => ?_)
  refine zgo hC0 5 2 rfl ?_
  exact zret_i rfl
set_option maxHeartbeats 2000000 in
set_option maxRecDepth 20000 in
theorem mX3_read_t (v : CV) (hv : Nat → CV) (o k : Nat) (sv : Nat → CV) (fl ps : Nat → Int32) (pl : Int32) (n : Nat) (hm : WM v n) (ho : o < 6) (hk : k ≤ 6) (q : Nat) (hw : WP ps pl q) (hf : zSc ps q q 0 0 = -(nI 6)) : ZM yX3_read cX3_read 3 (some .int) 5 124 [.ref 0] (hX v hv (nI o) (nI k) sv fl ps pl) (some (.int (nI (zRd ps q 21 0 v 0).2))) (hX (zRd ps q 21 0 v 0).1 (hup hv ((o + k) % 6) v) (nI (if k < 6 then o else (o + 1) % 6)) (nI (if k < 6 then k + 1 else 6)) sv fl ps (nI 0)) := by
  refine zm_of 3 qX3_read rfl rfl kX3_read rfl (Nat.le_of_ble_eq_true rfl) (fun C hC0 => ?_)
  have hq := hw.2.1
  refine zgo hC0 0 2 rfl ?_
  refine zcallVb hC0 (mX2_firstFault ps pl q hw) (zX_P v hv (nI o) (nI k) sv fl ps pl ps pl) rfl (Nat.le_of_ble_eq_true rfl) vX2_firstFault lk3_98 (by decide +kernel : decode cX3_read 4 = .ok (.invokevirtual 98, 3)) rfl rfl rfl (Nat.le_of_ble_eq_true rfl) (Nat.le_of_ble_eq_true rfl) (Nat.le_of_ble_eq_true rfl) ?_
  rw [hf]
  refine zgo hC0 3 2 rfl ?_
  refine And.intro (fun _ => ?_) (fun c => absurd rfl c)
  refine zgo hC0 7 4 rfl ?_
  refine zcallVb hC0 (mX1_remember hv v o k ho hk) (zX_H v hv (nI o) (nI k) sv fl ps pl v (hup hv ((o + k) % 6) v) (nI (if k < 6 then o else (o + 1) % 6)) (nI (if k < 6 then k + 1 else 6))) rfl (Nat.le_of_ble_eq_true rfl) vX1_remember lk3_45 (by decide +kernel : decode cX3_read 23 = .ok (.invokevirtual 45, 3)) rfl rfl rfl (Nat.le_of_ble_eq_true rfl) (Nat.le_of_ble_eq_true rfl) (Nat.le_of_ble_eq_true rfl) ?_
  obtain ⟨RR, hRR⟩ : ∃ RR, RR = zRd ps q 21 0 v 0 := ⟨_, rfl⟩
  rw [← hRR] at hC0
  have out : ∀ (v1 : CV) (c i : Nat), (v1, c) = RR → C 132 [some (.ref 0), some (.int (nI c)), some (.int (nI i))] [] (hX v1 (hup hv ((o + k) % 6) v) (nI (if k < 6 then o else (o + 1) % 6)) (nI (if k < 6 then k + 1 else 6)) sv fl ps pl) := by
    intro v1 c i hz
    rw [← hz] at hC0
    refine zgo hC0 68 2 rfl ?_
    refine zcallVb hC0 (mX2_clear ps pl) (zX_P v1 (hup hv ((o + k) % 6) v) (nI (if k < 6 then o else (o + 1) % 6)) (nI (if k < 6 then k + 1 else 6)) sv fl ps pl ps (nI 0)) rfl (Nat.le_of_ble_eq_true rfl) vX2_clear lk3_124 (by decide +kernel : decode cX3_read 136 = .ok (.invokevirtual 124, 3)) rfl rfl rfl (Nat.le_of_ble_eq_true rfl) (Nat.le_of_ble_eq_true rfl) (Nat.le_of_ble_eq_true rfl) ?_
    refine zgo hC0 71 2 rfl ?_
    exact zret_i rfl
  have key : ∀ (f i c : Nat) (v1 : CV) (n1 : Nat), WM v1 n1 → q ≤ i + 3 * f → i ≤ 64 → zRd ps q f i v1 c = RR → C 30 [some (.ref 0), some (.int (nI c)), some (.int (nI i))] [] (hX v1 (hup hv ((o + k) % 6) v) (nI (if k < 6 then o else (o + 1) % 6)) (nI (if k < 6 then k + 1 else 6)) sv fl ps pl) := by
    intro f
    induction f with
    | zero =>
      intro i c v1 n1 hm1 hf1 hi1 hz
      refine zgo hC0 16 7 rfl ?_
      refine And.intro (fun _ => out v1 c i hz) (fun (c1 : ¬ pl ≤ nI i + nI 2) => absurd ?_ c1)
      rw [hw.1, nI_add]
      exact nI_le (by omega) (by omega)
    | succ f ih =>
      intro i c v1 n1 hm1 hf1 hi1 hz
      rw [zRd] at hz
      by_cases hlt : i + 2 < q
      rotate_left
      · rw [if_neg hlt] at hz
        refine zgo hC0 16 7 rfl ?_
        refine And.intro (fun _ => out v1 c i hz) (fun (c1 : ¬ pl ≤ nI i + nI 2) => absurd ?_ c1)
        rw [hw.1, nI_add]
        exact nI_le (by omega) (by omega)
      rw [if_pos hlt] at hz
      have at97 : ∀ (v2 : CV) (c2 n2 : Nat), WM v2 n2 → (if zSg ps q (i + 3) = nI 33 then zRd ps q f (i + 4) (zSe v2) c2 else zRd ps q f (i + 3) v2 c2) = RR → C 97 [some (.ref 0), some (.int (nI c2)), some (.int (nI i))] [] (hX v2 (hup hv ((o + k) % 6) v) (nI (if k < 6 then o else (o + 1) % 6)) (nI (if k < 6 then k + 1 else 6)) sv fl ps pl) := by
        intro v2 c2 n2 hm2 hz2
        refine zgo hC0 51 5 rfl ?_
        show C 104 [some (.ref 0), some (.int (nI c2)), some (.int (nI i))] [.int (nI i + nI 3), .ref 11] (hX v2 (hup hv ((o + k) % 6) v) (nI (if k < 6 then o else (o + 1) % 6)) (nI (if k < 6 then k + 1 else 6)) sv fl ps pl)
        rw [nI_add]
        refine zcallVb hC0 (mX2_endsSessionAt ps pl q (i + 3) hw (by omega)) (zX_P v2 (hup hv ((o + k) % 6) v) (nI (if k < 6 then o else (o + 1) % 6)) (nI (if k < 6 then k + 1 else 6)) sv fl ps pl ps pl) rfl (Nat.le_of_ble_eq_true rfl) vX2_endsSessionAt lk3_121 (by decide +kernel : decode cX3_read 104 = .ok (.invokevirtual 121, 3)) rfl rfl rfl (Nat.le_of_ble_eq_true rfl) (Nat.le_of_ble_eq_true rfl) (Nat.le_of_ble_eq_true rfl) ?_
        refine zgo hC0 57 1 rfl ?_
        refine And.intro (fun c3 => ?_) (fun c3 => ?_)
        · have c4 := of_decide_eq_false (b2i_f c3)
          rw [if_neg c4] at hz2
          refine zgo hC0 66 2 rfl ?_
          show C 30 [some (.ref 0), some (.int (nI c2)), some (.int (nI i + nI 3))] [] (hX v2 (hup hv ((o + k) % 6) v) (nI (if k < 6 then o else (o + 1) % 6)) (nI (if k < 6 then k + 1 else 6)) sv fl ps pl)
          rw [nI_add]
          exact ih (i + 3) c2 v2 n2 hm2 (by omega) (by omega) hz2
        · have c4 := of_decide_eq_true (b2i_t c3)
          rw [if_pos c4] at hz2
          refine zgo hC0 58 8 rfl ?_
          refine zgo hC0 66 2 rfl ?_
          show C 30 [some (.ref 0), some (.int (nI c2)), some (.int (nI i + nI 1 + nI 3))] [] (hX (zSe v2) (hup hv ((o + k) % 6) v) (nI (if k < 6 then o else (o + 1) % 6)) (nI (if k < 6 then k + 1 else 6)) sv fl ps pl)
          rw [nI_add, nI_add]
          exact ih (i + 1 + 3) c2 (zSe v2) n2 hm2 (by omega) (by omega) (by rw [show i + 1 + 3 = i + 4 by omega]; exact hz2)
      refine zgo hC0 16 7 rfl ?_
      refine And.intro (fun (c1 : pl ≤ nI i + nI 2) => absurd c1 (by rw [hw.1, nI_add]; exact nI_ge (by omega) (by omega))) (fun _ => ?_)
      refine zgo hC0 23 4 rfl ?_
      refine zcallVb hC0 (mX2_lengthAt ps pl q i hw (by omega)) (zX_P v1 (hup hv ((o + k) % 6) v) (nI (if k < 6 then o else (o + 1) % 6)) (nI (if k < 6 then k + 1 else 6)) sv fl ps pl ps pl) rfl (Nat.le_of_ble_eq_true rfl) vX2_lengthAt lk3_104 (by decide +kernel : decode cX3_read 49 = .ok (.invokevirtual 104, 3)) rfl rfl rfl (Nat.le_of_ble_eq_true rfl) (Nat.le_of_ble_eq_true rfl) (Nat.le_of_ble_eq_true rfl) ?_
      refine zgo hC0 28 5 rfl ?_
      show C 59 [some (.ref 0), some (.int (nI c)), some (.int (nI i))] [.int (nI i + nI 1), .ref 11, .int (zSg ps q i - nI 48), .ref 0] (hX v1 (hup hv ((o + k) % 6) v) (nI (if k < 6 then o else (o + 1) % 6)) (nI (if k < 6 then k + 1 else 6)) sv fl ps pl)
      rw [nI_add]
      refine zcallVb hC0 (mX2_topicAt ps pl q (i + 1) hw (by omega)) (zX_P v1 (hup hv ((o + k) % 6) v) (nI (if k < 6 then o else (o + 1) % 6)) (nI (if k < 6 then k + 1 else 6)) sv fl ps pl ps pl) rfl (Nat.le_of_ble_eq_true rfl) vX2_topicAt lk3_108 (by decide +kernel : decode cX3_read 59 = .ok (.invokevirtual 108, 3)) rfl rfl rfl (Nat.le_of_ble_eq_true rfl) (Nat.le_of_ble_eq_true rfl) (Nat.le_of_ble_eq_true rfl) ?_
      refine zgo hC0 34 5 rfl ?_
      show C 69 [some (.ref 0), some (.int (nI c)), some (.int (nI i))] [.int (nI i + nI 2), .ref 11, .int (zSg ps q (i + 1) - nI 48), .int (zSg ps q i - nI 48), .ref 0] (hX v1 (hup hv ((o + k) % 6) v) (nI (if k < 6 then o else (o + 1) % 6)) (nI (if k < 6 then k + 1 else 6)) sv fl ps pl)
      rw [nI_add]
      refine zcallVb hC0 (mX2_stanceAt ps pl q (i + 2) hw (by omega)) (zX_P v1 (hup hv ((o + k) % 6) v) (nI (if k < 6 then o else (o + 1) % 6)) (nI (if k < 6 then k + 1 else 6)) sv fl ps pl ps pl) rfl (Nat.le_of_ble_eq_true rfl) vX2_stanceAt lk3_111 (by decide +kernel : decode cX3_read 69 = .ok (.invokevirtual 111, 3)) rfl rfl rfl (Nat.le_of_ble_eq_true rfl) (Nat.le_of_ble_eq_true rfl) (Nat.le_of_ble_eq_true rfl) ?_
      show C 72 [some (.ref 0), some (.int (nI c)), some (.int (nI i))] [.int (zSt (zSg ps q (i + 2))), .int (zSg ps q (i + 1) - nI 48), .int (zSg ps q i - nI 48), .ref 0] (hX v1 (hup hv ((o + k) % 6) v) (nI (if k < 6 then o else (o + 1) % 6)) (nI (if k < 6 then k + 1 else 6)) sv fl ps pl)
      generalize zSg ps q i - nI 48 = bl at hz ⊢
      generalize zSg ps q (i + 1) - nI 48 = bt at hz ⊢
      generalize zSt (zSg ps q (i + 2)) = bs at hz ⊢
      rw [zVo, zVc, mk_eq hm1] at hz
      cases hp : zPass v1 bl bt bs n1 with
      | true =>
        rw [hp] at hz
        refine zcallV hC0 (mX3_voteOn_t v1 (hup hv ((o + k) % 6) v) (nI (if k < 6 then o else (o + 1) % 6)) (nI (if k < 6 then k + 1 else 6)) sv fl ps pl bl bt bs n1 hm1 hp) vX3_voteOn lk3_114 (by decide +kernel : decode cX3_read 72 = .ok (.invokevirtual 114, 3)) rfl rfl rfl (Nat.le_of_ble_eq_true rfl) (Nat.le_of_ble_eq_true rfl) (Nat.le_of_ble_eq_true rfl) ?_
        refine zgo hC0 41 1 rfl ?_
        refine And.intro (fun c1 => absurd c1 (by decide)) (fun _ => ?_)
        refine zgo hC0 42 2 rfl ?_
        show C 97 [some (.ref 0), some (.int (nI c + nI 1)), some (.int (nI i))] [] _
        rw [nI_add]
        exact at97 (zEN v1 bl bt bs (zBR v1 bl bt bs n1) n1) (c + 1) (n1 + 1) (WM_EN (zPass_n hm1 hp)) hz
      | false =>
        rw [hp] at hz
        refine zcallV hC0 (mX3_voteOn_f v1 (hup hv ((o + k) % 6) v) (nI (if k < 6 then o else (o + 1) % 6)) (nI (if k < 6 then k + 1 else 6)) sv fl ps pl bl bt bs n1 hm1 hp) vX3_voteOn lk3_114 (by decide +kernel : decode cX3_read 72 = .ok (.invokevirtual 114, 3)) rfl rfl rfl (Nat.le_of_ble_eq_true rfl) (Nat.le_of_ble_eq_true rfl) (Nat.le_of_ble_eq_true rfl) ?_
        refine zgo hC0 41 1 rfl ?_
        refine And.intro (fun _ => ?_) (fun c1 => absurd rfl c1)
        refine zgo hC0 44 7 rfl ?_
        exact at97 (vup v1 11 (upd (v1 11) 0 (v1 11 0 + nI 1))) c n1 hm1 hz
  refine zgo hC0 12 4 rfl ?_
  exact key 21 0 0 v n hm (by omega) (by decide) hRR.symm
/-- how many characters a number gives, from m on, f more at most -/
def zSI : Nat → Nat → Int64 → Int32
  | 0, m, _ => nI m
  | f + 1, m, r => if lg_cmp r (lN 0) = 0 then nI m else if lg_cmp (r &&& lN 255) (lN 33) < 0 then nI 0 else if lg_cmp (r &&& lN 255) (lN 126) ≤ 0 then zSI f (m + 1) (zlushr r (nI 8)) else nI 0
set_option maxHeartbeats 2000000 in
set_option maxRecDepth 20000 in
theorem mX3_signsIn (c : Int64) (h : List ZC) : ZM yX3_signsIn cX3_signsIn 7 (some .int) 0 0 [.long c] h (some (.int (zSI 8 0 c))) h := by
  refine zm_of 3 qX3_signsIn rfl rfl kX3_signsIn rfl (Nat.le_of_ble_eq_true rfl) (fun C hC0 => ?_)
  have key : ∀ (f m : Nat) (r : Int64) (o : Option Value), f + m = 8 → zSI f m r = zSI 8 0 c → C 5 [some (.long c), none, some (.long r), none, some (.int (nI m)), o, none] [] h := by
    intro f
    induction f with
    | zero =>
      intro m r o hf hz
      refine zgo hC0 4 3 rfl ?_
      refine And.intro (fun _ => ?_) (fun (c1 : ¬ nI 8 ≤ nI m) => absurd (nI_le (by omega) (by omega)) c1)
      refine zgo hC0 31 2 rfl ?_
      exact zret_i hz.symm
    | succ f ih =>
      intro m r o hf hz
      rw [zSI] at hz
      refine zgo hC0 4 3 rfl ?_
      refine And.intro (fun (c1 : nI 8 ≤ nI m) => absurd c1 (nI_ge (by omega) (by decide))) (fun _ => ?_)
      refine zgo hC0 7 4 rfl ?_
      refine And.intro (fun (c1 : lg_cmp r (lN 0) = 0) => ?_) (fun (c1 : ¬ lg_cmp r (lN 0) = 0) => ?_)
      · rw [if_pos c1] at hz
        refine zgo hC0 31 2 rfl ?_
        exact zret_i hz.symm
      · rw [if_neg c1] at hz
        have at43 : ∀ o : Option Value, nI 0 = zSI 8 0 c → C 43 [some (.long c), none, some (.long r), none, some (.int (nI m)), o, none] [] h := by
          intro o hz
          refine zgo hC0 23 2 rfl ?_
          exact zret_i hz.symm
        refine zgo hC0 11 8 rfl ?_
        refine And.intro (fun (c2 : lg_cmp (r &&& lN 255) (lN 33) < 0) => at43 _ (by rw [if_pos c2] at hz; exact hz)) (fun (c2 : ¬ lg_cmp (r &&& lN 255) (lN 33) < 0) => ?_)
        rw [if_neg c2] at hz
        refine zgo hC0 19 4 rfl ?_
        refine And.intro (fun (c3 : lg_cmp (r &&& lN 255) (lN 126) ≤ 0) => ?_) (fun (c3 : ¬ lg_cmp (r &&& lN 255) (lN 126) ≤ 0) => ?_)
        · rw [if_pos c3] at hz
          refine zgo hC0 25 6 rfl ?_
          show C 5 [some (.long c), none, some (.long (zlushr r (nI 8))), none, some (.int (nI m + nI 1)), some (.long (r &&& lN 255)), none] [] h
          rw [nI_add]
          exact ih (m + 1) (zlushr r (nI 8)) _ (by omega) hz
        · rw [if_neg c3] at hz
          refine zgo hC0 23 2 rfl ?_
          exact zret_i hz.symm
  refine zgo hC0 0 4 rfl ?_
  exact key 8 0 c _ rfl rfl
/-- the sign number i from behind, and the pad with j of m signs put -/
def zch (c : Int64) (i : Nat) : Int32 := zi2c (zlushr c (nI 8 * nI i) &&& lN 255).toInt32
def zpp (ps : Nat → Int32) (q : Nat) (c : Int64) (m : Nat) : Nat → Nat → Int32
  | 0 => ps
  | j + 1 => upd (zpp ps q c m j) (q + j) (zch c (m - 1 - j))
set_option maxHeartbeats 2000000 in
set_option maxRecDepth 20000 in
theorem mX3_put_a (v : CV) (hv : Nat → CV) (ho hk : Int32) (sv : Nat → CV) (fl ps : Nat → Int32) (pl : Int32) (c : Int64) (hs : zSI 8 0 c = nI 0) : ZM yX3_put cX3_put 5 (some .int) 1 26 [.ref 0, .long c] (hX v hv ho hk sv fl ps pl) (some (.int (-(nI 2)))) (hX v hv ho hk sv fl ps pl) := by
  refine zm_of 3 qX3_put rfl rfl kX3_put rfl (Nat.le_of_ble_eq_true rfl) (fun C hC0 => ?_)
  refine zgo hC0 0 1 rfl ?_
  refine zcallS hC0 (mX3_signsIn c (hX v hv ho hk sv fl ps pl)) vX3_signsIn lk3_210 (by decide +kernel : decode cX3_put 1 = .ok (.invokestatic 210, 3)) rfl rfl (Nat.le_of_ble_eq_true rfl) (Nat.le_of_ble_eq_true rfl) (Nat.le_of_ble_eq_true rfl) ?_
  rw [hs]
  refine zgo hC0 2 3 rfl ?_
  refine And.intro (fun q => absurd rfl q) (fun _ => ?_)
  refine zgo hC0 5 2 rfl ?_
  exact zret_i rfl
set_option maxHeartbeats 2000000 in
set_option maxRecDepth 20000 in
theorem mX3_put_b (v : CV) (hv : Nat → CV) (ho hk : Int32) (sv : Nat → CV) (fl ps : Nat → Int32) (q m : Nat) (c : Int64) (hm0 : 0 < m) (hm8 : m ≤ 8) (hs : zSI 8 0 c = nI m) (hq : q ≤ 60) (hb : 60 < q + m) : ZM yX3_put cX3_put 5 (some .int) 1 26 [.ref 0, .long c] (hX v hv ho hk sv fl ps (nI q)) (some (.int (-(nI 4)))) (hX v hv ho hk sv fl ps (nI q)) := by
  refine zm_of 3 qX3_put rfl rfl kX3_put rfl (Nat.le_of_ble_eq_true rfl) (fun C hC0 => ?_)
  refine zgo hC0 0 1 rfl ?_
  refine zcallS hC0 (mX3_signsIn c (hX v hv ho hk sv fl ps (nI q))) vX3_signsIn lk3_210 (by decide +kernel : decode cX3_put 1 = .ok (.invokestatic 210, 3)) rfl rfl (Nat.le_of_ble_eq_true rfl) (Nat.le_of_ble_eq_true rfl) (Nat.le_of_ble_eq_true rfl) ?_
  rw [hs]
  refine zgo hC0 2 3 rfl ?_
  refine And.intro (fun _ => ?_) (fun c1 => absurd c1 (nI_ne0 hm0 (by omega)))
  refine zgo hC0 7 7 rfl ?_
  refine And.intro (fun (c1 : nI q + nI m ≤ nI 60) => absurd c1 (by rw [nI_add]; exact nI_ge hb (by omega))) (fun _ => ?_)
  refine zgo hC0 14 2 rfl ?_
  exact zret_i rfl
set_option maxHeartbeats 2000000 in
set_option maxRecDepth 20000 in
theorem mX3_put_t (v : CV) (hv : Nat → CV) (ho hk : Int32) (sv : Nat → CV) (fl ps : Nat → Int32) (q m : Nat) (c : Int64) (hm0 : 0 < m) (hm8 : m ≤ 8) (hs : zSI 8 0 c = nI m) (hb : q + m ≤ 60) : ZM yX3_put cX3_put 5 (some .int) 1 26 [.ref 0, .long c] (hX v hv ho hk sv fl ps (nI q)) (some (.int (nI (q + m)))) (hX v hv ho hk sv fl (zpp ps q c m m) (nI (q + m))) := by
  refine zm_of 3 qX3_put rfl rfl kX3_put rfl (Nat.le_of_ble_eq_true rfl) (fun C hC0 => ?_)
  refine zgo hC0 0 1 rfl ?_
  refine zcallS hC0 (mX3_signsIn c (hX v hv ho hk sv fl ps (nI q))) vX3_signsIn lk3_210 (by decide +kernel : decode cX3_put 1 = .ok (.invokestatic 210, 3)) rfl rfl (Nat.le_of_ble_eq_true rfl) (Nat.le_of_ble_eq_true rfl) (Nat.le_of_ble_eq_true rfl) ?_
  rw [hs]
  refine zgo hC0 2 3 rfl ?_
  refine And.intro (fun _ => ?_) (fun c1 => absurd c1 (nI_ne0 hm0 (by omega)))
  refine zgo hC0 7 7 rfl ?_
  refine And.intro (fun _ => ?_) (fun (c1 : ¬ nI q + nI m ≤ nI 60) => absurd (by rw [nI_add]; exact nI_le hb (by omega)) c1)
  refine zgo hC0 16 4 rfl ?_
  have out : C 65 [some (.ref 0), some (.long c), none, some (.int (nI m)), none] [] (hX v hv ho hk sv fl (zpp ps q c m m) (nI (q + m))) := by
    refine zgo hC0 36 4 rfl ?_
    exact zret_i rfl
  have key : ∀ k j : Nat, j + k = m → C 34 [some (.ref 0), some (.long c), none, some (.int (nI m)), some (.int (nI k - nI 1))] [] (hX v hv ho hk sv fl (zpp ps q c m j) (nI (q + j))) := by
    intro k
    induction k with
    | zero =>
      intro j hj
      have e : j = m := by omega
      subst e
      refine zgo hC0 20 2 rfl ?_
      refine And.intro (fun _ => ?_) (fun c1 => absurd (by decide) c1)
      refine zmask hC0 [true, true, true, true, false] ?_
      exact out
    | succ k ih =>
      intro j hj
      rw [show nI (k + 1) - nI 1 = nI k from nI_pred k]
      refine zgo hC0 20 2 rfl ?_
      refine And.intro (fun c1 => absurd c1 (nI_pos (by omega))) (fun _ => ?_)
      refine zgo hC0 22 11 rfl ?_
      show C 56 [some (.ref 0), some (.long c), none, some (.int (nI m)), some (.int (nI k))] [.int (zch c k), .ref 11] (hX v hv ho hk sv fl (zpp ps q c m j) (nI (q + j)))
      refine zcallVb hC0 (mX2_append (zpp ps q c m j) (q + j) (zch c k) (by omega) (pk_nc _)) (zX_P v hv ho hk sv fl (zpp ps q c m j) (nI (q + j)) (upd (zpp ps q c m j) (q + j) (zch c k)) (nI (q + j + 1))) rfl (Nat.le_of_ble_eq_true rfl) vX2_append lk3_216 (by decide +kernel : decode cX3_put 56 = .ok (.invokevirtual 216, 3)) rfl rfl rfl (Nat.le_of_ble_eq_true rfl) (Nat.le_of_ble_eq_true rfl) (Nat.le_of_ble_eq_true rfl) ?_
      refine zgo hC0 34 2 rfl ?_
      have e : zpp ps q c m (j + 1) = upd (zpp ps q c m j) (q + j) (zch c k) := by rw [zpp, show m - 1 - j = k by omega]
      have h1 := ih (j + 1) (by omega)
      rw [e] at h1
      show C 34 [some (.ref 0), some (.long c), none, some (.int (nI m)), some (.int (nI k + (-(nI 1))))] [] (hX v hv ho hk sv fl (upd (zpp ps q c m j) (q + j) (zch c k)) (nI (q + j + 1)))
      rw [← Int32.sub_eq_add_neg]
      exact h1
  exact key m 0 (by omega)
