/-! RepealedLaws: the calls that change nothing -/
def zEB (v : CV) (l t s x : Int32) : Int32 := match zbt (nI 0) (nI 6) t && (decide (x = -(nI 6)) || zL v x) with
  | true => match zbt (nI 1) (nI 10) l && zbt (nI 0) (nI 3) s with
    | true => nI 0
    | false => -(nI 2)
  | false => -(nI 1)
set_option maxHeartbeats 2000000 in
set_option maxRecDepth 20000 in
theorem mX3_errorOfBill (v : CV) (hv : Nat → CV) (ho hk : Int32) (sv : Nat → CV) (fl ps : Nat → Int32) (pl l t s x : Int32) : ZM yX3_errorOfBill cX3_errorOfBill 5 (some .int) 1 21 [.ref 0, .int l, .int t, .int s, .int x] (hX v hv ho hk sv fl ps pl) (some (.int (zEB v l t s x))) (hX v hv ho hk sv fl ps pl) := by
  refine zm_of 3 qX3_errorOfBill rfl rfl kX3_errorOfBill rfl (Nat.le_of_ble_eq_true rfl) (fun C hC0 => ?_)
  have at26 : (zbt (nI 0) (nI 6) t && (decide (x = -(nI 6)) || zL v x)) = false → C 26 [some (.ref 0), some (.int l), some (.int t), some (.int s), some (.int x)] [] (hX v hv ho hk sv fl ps pl) := by
    intro hq
    refine zgo hC0 11 2 rfl ?_
    exact zret_i (by rw [zEB, hq]; rfl)
  have at28 : (zbt (nI 0) (nI 6) t && (decide (x = -(nI 6)) || zL v x)) = true → C 28 [some (.ref 0), some (.int l), some (.int t), some (.int s), some (.int x)] [] (hX v hv ho hk sv fl ps pl) := by
    intro hq
    have at46 : (zbt (nI 1) (nI 10) l && zbt (nI 0) (nI 3) s) = false → C 46 [some (.ref 0), some (.int l), some (.int t), some (.int s), some (.int x)] [] (hX v hv ho hk sv fl ps pl) := by
      intro hq2
      refine zgo hC0 21 2 rfl ?_
      exact zret_i (by rw [zEB, hq, hq2]; rfl)
    refine zgo hC0 13 1 rfl ?_
    refine zcallS hC0 (mX3_isLength l (hX v hv ho hk sv fl ps pl)) vX3_isLength lk3_229 (by decide +kernel : decode cX3_errorOfBill 29 = .ok (.invokestatic 229, 3)) rfl rfl (Nat.le_of_ble_eq_true rfl) (Nat.le_of_ble_eq_true rfl) (Nat.le_of_ble_eq_true rfl) ?_
    refine zgo hC0 15 1 rfl ?_
    refine And.intro (fun c => at46 (zand_f1 (b2i_f c))) (fun c => ?_)
    refine zgo hC0 16 1 rfl ?_
    refine zcallS hC0 (mX3_isStance s (hX v hv ho hk sv fl ps pl)) vX3_isStance lk3_59 (by decide +kernel : decode cX3_errorOfBill 36 = .ok (.invokestatic 59, 3)) rfl rfl (Nat.le_of_ble_eq_true rfl) (Nat.le_of_ble_eq_true rfl) (Nat.le_of_ble_eq_true rfl) ?_
    refine zgo hC0 18 1 rfl ?_
    refine And.intro (fun c2 => at46 (zand_f2 (b2i_f c2))) (fun c2 => ?_)
    refine zgo hC0 19 2 rfl ?_
    refine zgo hC0 22 1 rfl ?_
    exact zret_i (by rw [zEB, hq, zand_t (b2i_t c) (b2i_t c2)]; rfl)
  refine zgo hC0 0 1 rfl ?_
  refine zcallS hC0 (mX3_isTopic t (hX v hv ho hk sv fl ps pl)) vX3_isTopic lk3_56 (by decide +kernel : decode cX3_errorOfBill 1 = .ok (.invokestatic 56, 3)) rfl rfl (Nat.le_of_ble_eq_true rfl) (Nat.le_of_ble_eq_true rfl) (Nat.le_of_ble_eq_true rfl) ?_
  refine zgo hC0 2 1 rfl ?_
  refine And.intro (fun c => at26 (zand_f1 (b2i_f c))) (fun c => ?_)
  refine zgo hC0 3 3 rfl ?_
  refine And.intro (fun (c2 : x = -(nI 6)) => at28 (by rw [b2i_t c, decide_eq_true c2]; rfl)) (fun (c2 : ¬ x = -(nI 6)) => ?_)
  refine zgo hC0 6 3 rfl ?_
  refine zcallVb hC0 (mX0_isLaw v x) (zX_C v hv ho hk sv fl ps pl v) rfl (Nat.le_of_ble_eq_true rfl) vX0_isLaw lk3_77 (by decide +kernel : decode cX3_errorOfBill 20 = .ok (.invokevirtual 77, 3)) rfl rfl rfl (Nat.le_of_ble_eq_true rfl) (Nat.le_of_ble_eq_true rfl) (Nat.le_of_ble_eq_true rfl) ?_
  refine zgo hC0 10 1 rfl ?_
  refine And.intro (fun c3 => at28 (by rw [b2i_t c, b2i_t c3, decide_eq_false c2]; rfl)) (fun c3 => at26 (by rw [b2i_t c, b2i_f c3, decide_eq_false c2]; rfl))
def zFull (v : CV) : Bool := decide (¬ v 9 0 < nI 80)
def zWhy (v : CV) (l t s x : Int32) (n : Nat) : Int32 := if zEB v l t s x = nI 0 then (match zFull v with
  | true => -(nI 4)
  | false => zRA v l t s x n) else zEB v l t s x
set_option maxHeartbeats 2000000 in
set_option maxRecDepth 20000 in
theorem mX3_why (v : CV) (hv : Nat → CV) (ho hk : Int32) (sv : Nat → CV) (fl ps : Nat → Int32) (pl l t s x : Int32) (n : Nat) (hm : WM v n) : ZM yX3_why cX3_why 6 (some .int) 4 98 [.ref 0, .int l, .int t, .int s, .int x] (hX v hv ho hk sv fl ps pl) (some (.int (zWhy v l t s x n))) (hX v hv ho hk sv fl ps pl) := by
  refine zm_of 3 qX3_why rfl rfl kX3_why rfl (Nat.le_of_ble_eq_true rfl) (fun C hC0 => ?_)
  refine zgo hC0 0 5 rfl ?_
  refine zcallV hC0 (mX3_errorOfBill v hv ho hk sv fl ps pl l t s x) vX3_errorOfBill lk3_190 (by decide +kernel : decode cX3_why 6 = .ok (.invokevirtual 190, 3)) rfl rfl rfl (Nat.le_of_ble_eq_true rfl) (Nat.le_of_ble_eq_true rfl) (Nat.le_of_ble_eq_true rfl) ?_
  refine zgo hC0 6 3 rfl ?_
  refine And.intro (fun (c : zEB v l t s x = nI 0) => ?_) (fun (c : ¬ zEB v l t s x = nI 0) => ?_)
  · refine zgo hC0 11 2 rfl ?_
    refine zcallVb hC0 (mX0_isFull v) (zX_C v hv ho hk sv fl ps pl v) rfl (Nat.le_of_ble_eq_true rfl) vX0_isFull lk3_193 (by decide +kernel : decode cX3_why 23 = .ok (.invokevirtual 193, 3)) rfl rfl rfl (Nat.le_of_ble_eq_true rfl) (Nat.le_of_ble_eq_true rfl) (Nat.le_of_ble_eq_true rfl) ?_
    refine zgo hC0 14 1 rfl ?_
    refine And.intro (fun c2 => ?_) (fun c2 => ?_)
    · refine zgo hC0 17 6 rfl ?_
      refine zcallVb hC0 (mX0_reasonAgainst v l t s x n hm) (zX_C v hv ho hk sv fl ps pl v) rfl (Nat.le_of_ble_eq_true rfl) vX0_reasonAgainst lk3_197 (by decide +kernel : decode cX3_why 41 = .ok (.invokevirtual 197, 3)) rfl rfl rfl (Nat.le_of_ble_eq_true rfl) (Nat.le_of_ble_eq_true rfl) (Nat.le_of_ble_eq_true rfl) ?_
      refine zgo hC0 24 1 rfl ?_
      exact zret_i (by rw [zWhy, if_pos c, zFull, b2i_f c2])
    · refine zgo hC0 15 2 rfl ?_
      exact zret_i (by rw [zWhy, if_pos c, zFull, b2i_t c2]; rfl)
  · refine zgo hC0 9 2 rfl ?_
    exact zret_i (by rw [zWhy, if_neg c])
def zVotes (v : CV) (l t s x : Int32) : Int32 := if zEB v l t s x = nI 0 then zVT v t s x else zEB v l t s x
set_option maxHeartbeats 2000000 in
set_option maxRecDepth 20000 in
theorem mX3_votes (v : CV) (hv : Nat → CV) (ho hk : Int32) (sv : Nat → CV) (fl ps : Nat → Int32) (pl l t s x : Int32) (n : Nat) (hm : WM v n) : ZM yX3_votes cX3_votes 6 (some .int) 3 73 [.ref 0, .int l, .int t, .int s, .int x] (hX v hv ho hk sv fl ps pl) (some (.int (zVotes v l t s x))) (hX v hv ho hk sv fl ps pl) := by
  refine zm_of 3 qX3_votes rfl rfl kX3_votes rfl (Nat.le_of_ble_eq_true rfl) (fun C hC0 => ?_)
  refine zgo hC0 0 5 rfl ?_
  refine zcallV hC0 (mX3_errorOfBill v hv ho hk sv fl ps pl l t s x) vX3_errorOfBill lk3_190 (by decide +kernel : decode cX3_votes 6 = .ok (.invokevirtual 190, 3)) rfl rfl rfl (Nat.le_of_ble_eq_true rfl) (Nat.le_of_ble_eq_true rfl) (Nat.le_of_ble_eq_true rfl) ?_
  refine zgo hC0 6 3 rfl ?_
  refine And.intro (fun (c : zEB v l t s x = nI 0) => ?_) (fun (c : ¬ zEB v l t s x = nI 0) => ?_)
  · refine zgo hC0 11 5 rfl ?_
    refine zcallVb hC0 (mX0_votersFor v t s x n hm) (zX_C v hv ho hk sv fl ps pl v) rfl (Nat.le_of_ble_eq_true rfl) vX0_votersFor lk3_200 (by decide +kernel : decode cX3_votes 29 = .ok (.invokevirtual 200, 3)) rfl rfl rfl (Nat.le_of_ble_eq_true rfl) (Nat.le_of_ble_eq_true rfl) (Nat.le_of_ble_eq_true rfl) ?_
    refine zgo hC0 17 1 rfl ?_
    exact zret_i (by rw [zVotes, if_pos c])
  · refine zgo hC0 9 2 rfl ?_
    refine zgo hC0 17 1 rfl ?_
    exact zret_i (by rw [zVotes, if_neg c])
def zBestR (v : CV) (l t s : Int32) (n : Nat) : Int32 := if zEB v l t s (-(nI 6)) = nI 0 then zBR v l t s n else zEB v l t s (-(nI 6))
set_option maxHeartbeats 2000000 in
set_option maxRecDepth 20000 in
theorem mX3_bestRepeal (v : CV) (hv : Nat → CV) (ho hk : Int32) (sv : Nat → CV) (fl ps : Nat → Int32) (pl l t s : Int32) (n : Nat) (hm : WM v n) : ZM yX3_bestRepeal cX3_bestRepeal 5 (some .int) 4 100 [.ref 0, .int l, .int t, .int s] (hX v hv ho hk sv fl ps pl) (some (.int (zBestR v l t s n))) (hX v hv ho hk sv fl ps pl) := by
  refine zm_of 3 qX3_bestRepeal rfl rfl kX3_bestRepeal rfl (Nat.le_of_ble_eq_true rfl) (fun C hC0 => ?_)
  refine zgo hC0 0 5 rfl ?_
  refine zcallV hC0 (mX3_errorOfBill v hv ho hk sv fl ps pl l t s (-(nI 6))) vX3_errorOfBill lk3_190 (by decide +kernel : decode cX3_bestRepeal 6 = .ok (.invokevirtual 190, 3)) rfl rfl rfl (Nat.le_of_ble_eq_true rfl) (Nat.le_of_ble_eq_true rfl) (Nat.le_of_ble_eq_true rfl) ?_
  refine zgo hC0 6 3 rfl ?_
  refine And.intro (fun (c : zEB v l t s (-(nI 6)) = nI 0) => ?_) (fun (c : ¬ zEB v l t s (-(nI 6)) = nI 0) => ?_)
  · refine zgo hC0 11 5 rfl ?_
    refine zcallVb hC0 (mX0_bestRepealFor v l t s n hm) (zX_C v hv ho hk sv fl ps pl v) rfl (Nat.le_of_ble_eq_true rfl) vX0_bestRepealFor lk3_204 (by decide +kernel : decode cX3_bestRepeal 28 = .ok (.invokevirtual 204, 3)) rfl rfl rfl (Nat.le_of_ble_eq_true rfl) (Nat.le_of_ble_eq_true rfl) (Nat.le_of_ble_eq_true rfl) ?_
    refine zgo hC0 17 1 rfl ?_
    exact zret_i (by rw [zBestR, if_pos c])
  · refine zgo hC0 9 2 rfl ?_
    refine zgo hC0 17 1 rfl ?_
    exact zret_i (by rw [zBestR, if_neg c])
/-- the longest bill of at most j words that would pass; -6 -/
def zLB (v : CV) (t s : Int32) (n : Nat) : Nat → Int32
  | 0 => -(nI 6)
  | j + 1 => if zVI v (nI (j + 1)) t s n = -(nI 6) then zLB v t s n j else nI (j + 1)
def zLong (v : CV) (t s : Int32) (n : Nat) : Int32 := if zEB v (nI 9) t s (-(nI 6)) = nI 0 then (match zFull v with
  | true => -(nI 4)
  | false => zLB v t s n 9) else zEB v (nI 9) t s (-(nI 6))
set_option maxHeartbeats 2000000 in
set_option maxRecDepth 20000 in
theorem mX3_longestBill (v : CV) (hv : Nat → CV) (ho hk : Int32) (sv : Nat → CV) (fl ps : Nat → Int32) (pl t s : Int32) (n : Nat) (hm : WM v n) : ZM yX3_longestBill cX3_longestBill 5 (some .int) 5 125 [.ref 0, .int t, .int s] (hX v hv ho hk sv fl ps pl) (some (.int (zLong v t s n))) (hX v hv ho hk sv fl ps pl) := by
  refine zm_of 3 qX3_longestBill rfl rfl kX3_longestBill rfl (Nat.le_of_ble_eq_true rfl) (fun C hC0 => ?_)
  refine zgo hC0 0 5 rfl ?_
  refine zcallV hC0 (mX3_errorOfBill v hv ho hk sv fl ps pl (nI 9) t s (-(nI 6))) vX3_errorOfBill lk3_190 (by decide +kernel : decode cX3_longestBill 7 = .ok (.invokevirtual 190, 3)) rfl rfl rfl (Nat.le_of_ble_eq_true rfl) (Nat.le_of_ble_eq_true rfl) (Nat.le_of_ble_eq_true rfl) ?_
  refine zgo hC0 6 3 rfl ?_
  refine And.intro (fun (c : zEB v (nI 9) t s (-(nI 6)) = nI 0) => ?_) (fun (c : ¬ zEB v (nI 9) t s (-(nI 6)) = nI 0) => ?_)
  rotate_left
  · refine zgo hC0 9 2 rfl ?_
    exact zret_i (by rw [zLong, if_neg c])
  refine zgo hC0 11 2 rfl ?_
  refine zcallVb hC0 (mX0_isFull v) (zX_C v hv ho hk sv fl ps pl v) rfl (Nat.le_of_ble_eq_true rfl) vX0_isFull lk3_193 (by decide +kernel : decode cX3_longestBill 21 = .ok (.invokevirtual 193, 3)) rfl rfl rfl (Nat.le_of_ble_eq_true rfl) (Nat.le_of_ble_eq_true rfl) (Nat.le_of_ble_eq_true rfl) ?_
  refine zgo hC0 14 1 rfl ?_
  refine And.intro (fun c2 => ?_) (fun c2 => ?_)
  rotate_left
  · refine zgo hC0 15 2 rfl ?_
    exact zret_i (by rw [zLong, if_pos c, zFull, b2i_t c2]; rfl)
  have key : ∀ (j : Nat), j ≤ 9 → zLB v t s n j = zLB v t s n 9 → C 34 [some (.ref 0), some (.int t), some (.int s), none, some (.int (nI j))] [] (hX v hv ho hk sv fl ps pl) := by
    intro j
    induction j with
    | zero =>
      intro _ hz
      refine zgo hC0 19 3 rfl ?_
      refine And.intro (fun _ => ?_) (fun c3 => absurd (by decide) c3)
      refine zgo hC0 34 2 rfl ?_
      refine zret_i ?_
      rw [zLong, if_pos c, zFull, b2i_f c2]
      exact hz.symm
    | succ j ih =>
      intro hj hz
      refine zgo hC0 19 3 rfl ?_
      refine And.intro (fun (c3 : nI (j + 1) < nI 1) => absurd c3 (nI_nlt (by omega) (by omega))) (fun _ => ?_)
      refine zgo hC0 22 5 rfl ?_
      refine zcallVb hC0 (mX0_votesIfPassing v (nI (j + 1)) t s n hm) (zX_C v hv ho hk sv fl ps pl v) rfl (Nat.le_of_ble_eq_true rfl) vX0_votesIfPassing lk3_207 (by decide +kernel : decode cX3_longestBill 48 = .ok (.invokevirtual 207, 3)) rfl rfl rfl (Nat.le_of_ble_eq_true rfl) (Nat.le_of_ble_eq_true rfl) (Nat.le_of_ble_eq_true rfl) ?_
      rw [zLB] at hz
      refine zgo hC0 28 2 rfl ?_
      refine And.intro (fun (c4 : zVI v (nI (j + 1)) t s n = -(nI 6)) => ?_) (fun (c4 : ¬ zVI v (nI (j + 1)) t s n = -(nI 6)) => ?_)
      · rw [if_pos c4] at hz
        refine zgo hC0 32 2 rfl ?_
        show C 34 [some (.ref 0), some (.int t), some (.int s), none, some (.int (nI (j + 1) + (-(nI 1))))] [] (hX v hv ho hk sv fl ps pl)
        rw [show nI (j + 1) + (-(nI 1)) = nI j from pk_m1 j]
        exact ih (by omega) hz
      · rw [if_neg c4] at hz
        refine zgo hC0 30 2 rfl ?_
        refine zret_i ?_
        rw [zLong, if_pos c, zFull, b2i_f c2]
        exact hz.symm
  refine zgo hC0 17 2 rfl ?_
  refine zmask hC0 [true, true, true, false, true] ?_
  exact key 9 (by decide) rfl
