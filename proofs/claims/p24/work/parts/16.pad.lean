/-! RepealedLaws.Pad, and the small static methods -/
def hP (ps : Nat → Int32) (pl : Int32) : List ZC := [.inr (.inl (2, [.ref 1, .int pl])), .inl (1, 60, ps)]
def zbt (a b : Int32) (x : Int32) : Bool := decide (¬ x < a) && decide (¬ b ≤ x)
theorem zbt_f1 {a b x : Int32} (h : x < a) : zbt a b x = false := zand_f1 (decide_eq_false (fun q => q h))
theorem zbt_f2 {a b x : Int32} (h : b ≤ x) : zbt a b x = false := zand_f2 (decide_eq_false (fun q => q h))
theorem zbt_t {a b x : Int32} (h : ¬ x < a) (h2 : ¬ b ≤ x) : zbt a b x = true := zand_t (decide_eq_true h) (decide_eq_true h2)
set_option maxHeartbeats 2000000 in
set_option maxRecDepth 20000 in
theorem mX3_isCouncillor (x : Int32) (h : List ZC) : ZM yX3_isCouncillor cX3_isCouncillor 1 (some .boolean) 0 0 [.int x] h (some (.int (b2i (zbt (nI 0) (nI 5) x)))) h := by
  refine zm_of 3 qX3_isCouncillor rfl rfl kX3_isCouncillor rfl (Nat.le_of_ble_eq_true rfl) (fun C hC0 => ?_)
  refine zgo hC0 0 2 rfl ?_
  refine And.intro (fun (c : x < nI 0) => ?_) (fun (c : ¬ x < nI 0) => ?_)
  · refine zgo hC0 7 2 rfl ?_
    exact zret_b (zb0 (zbt_f1 c))
  · refine zgo hC0 2 3 rfl ?_
    refine And.intro (fun (c2 : nI 5 ≤ x) => ?_) (fun (c2 : ¬ nI 5 ≤ x) => ?_)
    · refine zgo hC0 7 2 rfl ?_
      exact zret_b (zb0 (zbt_f2 c2))
    · refine zgo hC0 5 2 rfl ?_
      refine zgo hC0 8 1 rfl ?_
      exact zret_b (zb1 (zbt_t c c2))
set_option maxHeartbeats 2000000 in
set_option maxRecDepth 20000 in
theorem mX3_isTopic (x : Int32) (h : List ZC) : ZM yX3_isTopic cX3_isTopic 1 (some .boolean) 0 0 [.int x] h (some (.int (b2i (zbt (nI 0) (nI 6) x)))) h := by
  refine zm_of 3 qX3_isTopic rfl rfl kX3_isTopic rfl (Nat.le_of_ble_eq_true rfl) (fun C hC0 => ?_)
  refine zgo hC0 0 2 rfl ?_
  refine And.intro (fun (c : x < nI 0) => ?_) (fun (c : ¬ x < nI 0) => ?_)
  · refine zgo hC0 7 2 rfl ?_
    exact zret_b (zb0 (zbt_f1 c))
  · refine zgo hC0 2 3 rfl ?_
    refine And.intro (fun (c2 : nI 6 ≤ x) => ?_) (fun (c2 : ¬ nI 6 ≤ x) => ?_)
    · refine zgo hC0 7 2 rfl ?_
      exact zret_b (zb0 (zbt_f2 c2))
    · refine zgo hC0 5 2 rfl ?_
      refine zgo hC0 8 1 rfl ?_
      exact zret_b (zb1 (zbt_t c c2))
set_option maxHeartbeats 2000000 in
set_option maxRecDepth 20000 in
theorem mX3_isStance (x : Int32) (h : List ZC) : ZM yX3_isStance cX3_isStance 1 (some .boolean) 0 0 [.int x] h (some (.int (b2i (zbt (nI 0) (nI 3) x)))) h := by
  refine zm_of 3 qX3_isStance rfl rfl kX3_isStance rfl (Nat.le_of_ble_eq_true rfl) (fun C hC0 => ?_)
  refine zgo hC0 0 2 rfl ?_
  refine And.intro (fun (c : x < nI 0) => ?_) (fun (c : ¬ x < nI 0) => ?_)
  · refine zgo hC0 7 2 rfl ?_
    exact zret_b (zb0 (zbt_f1 c))
  · refine zgo hC0 2 3 rfl ?_
    refine And.intro (fun (c2 : nI 3 ≤ x) => ?_) (fun (c2 : ¬ nI 3 ≤ x) => ?_)
    · refine zgo hC0 7 2 rfl ?_
      exact zret_b (zb0 (zbt_f2 c2))
    · refine zgo hC0 5 2 rfl ?_
      refine zgo hC0 8 1 rfl ?_
      exact zret_b (zb1 (zbt_t c c2))
set_option maxHeartbeats 2000000 in
set_option maxRecDepth 20000 in
theorem mX3_isSlot (x : Int32) (h : List ZC) : ZM yX3_isSlot cX3_isSlot 1 (some .boolean) 0 0 [.int x] h (some (.int (b2i (zbt (nI 0) (nI 2) x)))) h := by
  refine zm_of 3 qX3_isSlot rfl rfl kX3_isSlot rfl (Nat.le_of_ble_eq_true rfl) (fun C hC0 => ?_)
  refine zgo hC0 0 2 rfl ?_
  refine And.intro (fun (c : x < nI 0) => ?_) (fun (c : ¬ x < nI 0) => ?_)
  · refine zgo hC0 7 2 rfl ?_
    exact zret_b (zb0 (zbt_f1 c))
  · refine zgo hC0 2 3 rfl ?_
    refine And.intro (fun (c2 : nI 2 ≤ x) => ?_) (fun (c2 : ¬ nI 2 ≤ x) => ?_)
    · refine zgo hC0 7 2 rfl ?_
      exact zret_b (zb0 (zbt_f2 c2))
    · refine zgo hC0 5 2 rfl ?_
      refine zgo hC0 8 1 rfl ?_
      exact zret_b (zb1 (zbt_t c c2))
theorem zlt10 (x : Int32) : nI 9 < x ↔ nI 10 ≤ x := by
  rw [Int32.lt_iff_toInt_lt, Int32.le_iff_toInt_le, nI_toInt (by decide), nI_toInt (by decide)]
  omega
set_option maxHeartbeats 2000000 in
set_option maxRecDepth 20000 in
theorem mX3_isLength (x : Int32) (h : List ZC) : ZM yX3_isLength cX3_isLength 1 (some .boolean) 0 0 [.int x] h (some (.int (b2i (zbt (nI 1) (nI 10) x)))) h := by
  refine zm_of 3 qX3_isLength rfl rfl kX3_isLength rfl (Nat.le_of_ble_eq_true rfl) (fun C hC0 => ?_)
  refine zgo hC0 0 3 rfl ?_
  refine And.intro (fun (c : x < nI 1) => ?_) (fun (c : ¬ x < nI 1) => ?_)
  · refine zgo hC0 8 2 rfl ?_
    exact zret_b (zb0 (zbt_f1 c))
  · refine zgo hC0 3 3 rfl ?_
    refine And.intro (fun (c2 : nI 9 < x) => ?_) (fun (c2 : ¬ nI 9 < x) => ?_)
    · refine zgo hC0 8 2 rfl ?_
      exact zret_b (zb0 (zbt_f2 ((zlt10 x).mp c2)))
    · refine zgo hC0 6 2 rfl ?_
      refine zgo hC0 9 1 rfl ?_
      exact zret_b (zb1 (zbt_t c (fun q => c2 ((zlt10 x).mpr q))))
/-- the pad holds n characters, at most 60, each a character -/
def WP (ps : Nat → Int32) (pl : Int32) (n : Nat) : Prop := pl = nI n ∧ n ≤ 60 ∧ ∀ j, j < n → narrow .char (.int (ps j)) = .int (ps j)
/-- the sign at a place, 32 outside -/
def zSg (ps : Nat → Int32) (n i : Nat) : Int32 := if i < n then ps i else nI 32
set_option maxHeartbeats 2000000 in
set_option maxRecDepth 20000 in
theorem mX2_signAt (ps : Nat → Int32) (pl : Int32) (n i : Nat) (hw : WP ps pl n) (hi : i < 1000) : ZM yX2_signAt cX2_signAt 2 (some .char) 0 0 [.ref 0, .int (nI i)] (hP ps pl) (some (.int (zSg ps n i))) (hP ps pl) := by
  refine zm_of 2 qX2_signAt rfl rfl kX2_signAt rfl (Nat.le_of_ble_eq_true rfl) (fun C hC0 => ?_)
  have hn := hw.2.1
  refine zgo hC0 0 2 rfl ?_
  refine And.intro (fun c => absurd c (nI_pos (by omega))) (fun _ => ?_)
  refine zgo hC0 2 4 rfl ?_
  refine And.intro (fun (c : pl ≤ nI i) => ?_) (fun (c : ¬ pl ≤ nI i) => ?_)
  · rw [hw.1] at c
    have e : ¬ i < n := fun q => absurd c (nI_ge q (by omega))
    refine zgo hC0 11 2 rfl ?_
    exact ⟨by decide, by rw [zSg, if_neg e]; rfl, rfl⟩
  · rw [hw.1] at c
    have e : i < n := by
      rcases Nat.lt_or_ge i n with q | q
      · exact q
      · exact absurd (nI_le q (by omega)) c
    have e2 : (nI i).toNatClampNeg = i := nI_clamp (by omega)
    refine zgo hC0 6 5 rfl ?_
    refine And.intro (vp_in_nI (N := 60) (by omega) (by decide)) ?_
    refine zgo hC0 12 1 rfl ?_
    have h3 := hw.2.2 i e
    rw [← e2] at h3
    exact ⟨h3, by rw [zSg, if_pos e]; show _ = some (Value.int (ps (nI i).toNatClampNeg)); rw [e2], rfl⟩
set_option maxHeartbeats 2000000 in
set_option maxRecDepth 20000 in
theorem mX2_lengthAt (ps : Nat → Int32) (pl : Int32) (n i : Nat) (hw : WP ps pl n) (hi : i < 1000) : ZM yX2_lengthAt cX2_lengthAt 2 (some .int) 1 21 [.ref 0, .int (nI i)] (hP ps pl) (some (.int (zSg ps n i - nI 48))) (hP ps pl) := by
  refine zm_of 2 qX2_lengthAt rfl rfl kX2_lengthAt rfl (Nat.le_of_ble_eq_true rfl) (fun C hC0 => ?_)
  refine zgo hC0 0 2 rfl ?_
  refine zcallV hC0 (mX2_signAt ps pl n i hw hi) vX2_signAt lk2_19 (by decide +kernel : decode cX2_lengthAt 2 = .ok (.invokevirtual 19, 3)) rfl rfl rfl (Nat.le_of_ble_eq_true rfl) (Nat.le_of_ble_eq_true rfl) (Nat.le_of_ble_eq_true rfl) ?_
  refine zgo hC0 3 3 rfl ?_
  exact zret_i rfl
set_option maxHeartbeats 2000000 in
set_option maxRecDepth 20000 in
theorem mX2_topicAt (ps : Nat → Int32) (pl : Int32) (n i : Nat) (hw : WP ps pl n) (hi : i < 1000) : ZM yX2_topicAt cX2_topicAt 2 (some .int) 1 21 [.ref 0, .int (nI i)] (hP ps pl) (some (.int (zSg ps n i - nI 48))) (hP ps pl) := by
  refine zm_of 2 qX2_topicAt rfl rfl kX2_topicAt rfl (Nat.le_of_ble_eq_true rfl) (fun C hC0 => ?_)
  refine zgo hC0 0 2 rfl ?_
  refine zcallV hC0 (mX2_signAt ps pl n i hw hi) vX2_signAt lk2_19 (by decide +kernel : decode cX2_topicAt 2 = .ok (.invokevirtual 19, 3)) rfl rfl rfl (Nat.le_of_ble_eq_true rfl) (Nat.le_of_ble_eq_true rfl) (Nat.le_of_ble_eq_true rfl) ?_
  refine zgo hC0 3 3 rfl ?_
  exact zret_i rfl
/-- the stance that a letter means -/
def zSt (x : Int32) : Int32 := if x = nI 102 then nI 0 else if x = nI 97 then nI 1 else if x = nI 100 then nI 2 else -(nI 1)
set_option maxHeartbeats 2000000 in
set_option maxRecDepth 20000 in
theorem mX2_stanceAt (ps : Nat → Int32) (pl : Int32) (n i : Nat) (hw : WP ps pl n) (hi : i < 1000) : ZM yX2_stanceAt cX2_stanceAt 3 (some .int) 1 21 [.ref 0, .int (nI i)] (hP ps pl) (some (.int (zSt (zSg ps n i)))) (hP ps pl) := by
  refine zm_of 2 qX2_stanceAt rfl rfl kX2_stanceAt rfl (Nat.le_of_ble_eq_true rfl) (fun C hC0 => ?_)
  refine zgo hC0 0 2 rfl ?_
  refine zcallV hC0 (mX2_signAt ps pl n i hw hi) vX2_signAt lk2_19 (by decide +kernel : decode cX2_stanceAt 2 = .ok (.invokevirtual 19, 3)) rfl rfl rfl (Nat.le_of_ble_eq_true rfl) (Nat.le_of_ble_eq_true rfl) (Nat.le_of_ble_eq_true rfl) ?_
  refine zgo hC0 3 4 rfl ?_
  refine And.intro (fun (c : ¬ zSg ps n i = nI 102) => ?_) (fun (c : zSg ps n i = nI 102) => ?_)
  · refine zgo hC0 9 3 rfl ?_
    refine And.intro (fun (c2 : ¬ zSg ps n i = nI 97) => ?_) (fun (c2 : zSg ps n i = nI 97) => ?_)
    · refine zgo hC0 14 3 rfl ?_
      refine And.intro (fun (c3 : ¬ zSg ps n i = nI 100) => ?_) (fun (c3 : zSg ps n i = nI 100) => ?_)
      · refine zgo hC0 19 2 rfl ?_
        exact zret_i (by rw [zSt, if_neg c, if_neg c2, if_neg c3]; rfl)
      · refine zgo hC0 17 2 rfl ?_
        refine zgo hC0 20 1 rfl ?_
        exact zret_i (by rw [zSt, if_neg c, if_neg c2, if_pos c3]; rfl)
    · refine zgo hC0 12 2 rfl ?_
      exact zret_i (by rw [zSt, if_neg c, if_pos c2]; rfl)
  · refine zgo hC0 7 2 rfl ?_
    exact zret_i (by rw [zSt, if_pos c]; rfl)
set_option maxHeartbeats 2000000 in
set_option maxRecDepth 20000 in
theorem mX2_endsSessionAt (ps : Nat → Int32) (pl : Int32) (n i : Nat) (hw : WP ps pl n) (hi : i < 1000) : ZM yX2_endsSessionAt cX2_endsSessionAt 2 (some .boolean) 1 21 [.ref 0, .int (nI i)] (hP ps pl) (some (.int (b2i (decide (zSg ps n i = nI 33))))) (hP ps pl) := by
  refine zm_of 2 qX2_endsSessionAt rfl rfl kX2_endsSessionAt rfl (Nat.le_of_ble_eq_true rfl) (fun C hC0 => ?_)
  refine zgo hC0 0 2 rfl ?_
  refine zcallV hC0 (mX2_signAt ps pl n i hw hi) vX2_signAt lk2_19 (by decide +kernel : decode cX2_endsSessionAt 2 = .ok (.invokevirtual 19, 3)) rfl rfl rfl (Nat.le_of_ble_eq_true rfl) (Nat.le_of_ble_eq_true rfl) (Nat.le_of_ble_eq_true rfl) ?_
  refine zgo hC0 3 2 rfl ?_
  refine And.intro (fun (c : ¬ zSg ps n i = nI 33) => ?_) (fun (c : zSg ps n i = nI 33) => ?_)
  · refine zgo hC0 7 2 rfl ?_
    exact zret_b (zb0 (decide_eq_false c))
  · refine zgo hC0 5 2 rfl ?_
    refine zgo hC0 8 1 rfl ?_
    exact zret_b (zb1 (decide_eq_true c))
set_option maxHeartbeats 2000000 in
set_option maxRecDepth 20000 in
theorem mX2_clear (ps : Nat → Int32) (pl : Int32) : ZM yX2_clear cX2_clear 1 none 0 0 [.ref 0] (hP ps pl) none (hP ps (nI 0)) := by
  refine zm_of 2 qX2_clear rfl rfl kX2_clear rfl (Nat.le_of_ble_eq_true rfl) (fun C hC0 => ?_)
  refine zgo hC0 0 4 rfl ?_
  exact ⟨rfl, rfl⟩
set_option maxHeartbeats 2000000 in
set_option maxRecDepth 20000 in
theorem mX2_append (ps : Nat → Int32) (n : Nat) (x : Int32) (hn : n < 60) (hx : narrow .char (.int x) = .int x) : ZM yX2_append cX2_append 2 none 0 0 [.ref 0, .int x] (hP ps (nI n)) none (hP (upd ps n x) (nI (n + 1))) := by
  refine zm_of 2 qX2_append rfl rfl kX2_append rfl (Nat.le_of_ble_eq_true rfl) (fun C hC0 => ?_)
  have e2 : (nI n).toNatClampNeg = n := nI_clamp (by omega)
  refine zgo hC0 0 4 rfl ?_
  refine And.intro (fun c => absurd c (nI_ge hn (by decide))) (fun _ => ?_)
  refine zgo hC0 4 13 rfl ?_
  refine And.intro (vp_in_nI (N := 60) hn (by decide)) (And.intro rfl ?_)
  have e3 : vp_nar .char x = x := by rw [vp_nar, hx]
  rw [← nI_add]
  show hP (upd ps (nI n).toNatClampNeg (vp_nar .char x)) _ = _
  rw [e2, e3]
  rfl
/-- does the sign at i fit at the place of its bill -/
def zFt (ps : Nat → Int32) (n i p : Nat) : Bool := match p with
  | 0 => zbt (nI 1) (nI 10) (zSg ps n i - nI 48)
  | 1 => zbt (nI 0) (nI 6) (zSg ps n i - nI 48)
  | _ => zbt (nI 0) (nI 3) (zSt (zSg ps n i))
set_option maxHeartbeats 2000000 in
set_option maxRecDepth 20000 in
theorem mX2_fits (ps : Nat → Int32) (pl : Int32) (n i p : Nat) (hw : WP ps pl n) (hi : i < 1000) (hp : p < 3) : ZM yX2_fits cX2_fits 3 (some .boolean) 2 43 [.ref 0, .int (nI i), .int (nI p)] (hP ps pl) (some (.int (b2i (zFt ps n i p)))) (hP ps pl) := by
  refine zm_of 2 qX2_fits rfl rfl kX2_fits rfl (Nat.le_of_ble_eq_true rfl) (fun C hC0 => ?_)
  refine zgo hC0 0 1 rfl ?_
  have ok : (((#[(0, 27), (1, 36)] : Array (Int × Int)).toList.zip ((#[(0, 27), (1, 36)] : Array (Int × Int)).toList.drop 1)).all (fun (a, next) => a.1 < next.1) = true) := by decide +kernel
  have d1 : decode cX2_fits 1 = .ok (.lookupswitch 45 #[(0, 27), (1, 36)], 27) := by decide +kernel
  rcases (show p = 0 ∨ p = 1 ∨ p = 2 by omega) with rfl | rfl | rfl
  · refine zlsw hC0 d1 ok (tgt := 28) (by decide +kernel) ?_
    refine zgo hC0 2 2 rfl ?_
    refine zcallV hC0 (mX2_lengthAt ps pl n i hw hi) vX2_lengthAt lk2_23 (by decide +kernel : decode cX2_fits 30 = .ok (.invokevirtual 23, 3)) rfl rfl rfl (Nat.le_of_ble_eq_true rfl) (Nat.le_of_ble_eq_true rfl) (Nat.le_of_ble_eq_true rfl) ?_
    refine zcallN hC0 (mX3_isLength (zSg ps n i - nI 48) (hP ps pl)) vX3_isLength lk2_27 (by decide +kernel : decode cX2_fits 33 = .ok (.invokestatic 27, 3)) rfl rfl (Nat.le_of_ble_eq_true rfl) (Nat.le_of_ble_eq_true rfl) (Nat.le_of_ble_eq_true rfl) ?_
    refine zgo hC0 6 1 rfl ?_
    exact zret_b (show b2i (zFt ps n i 0) = b2i (zbt (nI 1) (nI 10) (zSg ps n i - nI 48)) from rfl)
  · refine zlsw hC0 d1 ok (tgt := 37) (by decide +kernel) ?_
    refine zgo hC0 7 2 rfl ?_
    refine zcallV hC0 (mX2_topicAt ps pl n i hw hi) vX2_topicAt lk2_31 (by decide +kernel : decode cX2_fits 39 = .ok (.invokevirtual 31, 3)) rfl rfl rfl (Nat.le_of_ble_eq_true rfl) (Nat.le_of_ble_eq_true rfl) (Nat.le_of_ble_eq_true rfl) ?_
    refine zcallN hC0 (mX3_isTopic (zSg ps n i - nI 48) (hP ps pl)) vX3_isTopic lk2_34 (by decide +kernel : decode cX2_fits 42 = .ok (.invokestatic 34, 3)) rfl rfl (Nat.le_of_ble_eq_true rfl) (Nat.le_of_ble_eq_true rfl) (Nat.le_of_ble_eq_true rfl) ?_
    refine zgo hC0 11 1 rfl ?_
    exact zret_b (show b2i (zFt ps n i 1) = b2i (zbt (nI 0) (nI 6) (zSg ps n i - nI 48)) from rfl)
  · refine zlsw hC0 d1 ok (tgt := 46) (by decide +kernel) ?_
    refine zgo hC0 12 2 rfl ?_
    refine zcallV hC0 (mX2_stanceAt ps pl n i hw hi) vX2_stanceAt lk2_37 (by decide +kernel : decode cX2_fits 48 = .ok (.invokevirtual 37, 3)) rfl rfl rfl (Nat.le_of_ble_eq_true rfl) (Nat.le_of_ble_eq_true rfl) (Nat.le_of_ble_eq_true rfl) ?_
    refine zcallN hC0 (mX3_isStance (zSt (zSg ps n i)) (hP ps pl)) vX3_isStance lk2_40 (by decide +kernel : decode cX2_fits 51 = .ok (.invokestatic 40, 3)) rfl rfl (Nat.le_of_ble_eq_true rfl) (Nat.le_of_ble_eq_true rfl) (Nat.le_of_ble_eq_true rfl) ?_
    refine zgo hC0 16 1 rfl ?_
    exact zret_b (show b2i (zFt ps n i 2) = b2i (zbt (nI 0) (nI 3) (zSt (zSg ps n i))) from rfl)
