/-! RepealedLaws: law, topic, councillor, count, fault, wipe -/
def zLw (v : CV) (x : Int32) (n : Nat) (j : Nat) : Int32 := match j with
  | 7 => nI (cnt (fun j => zCT v x (nI j)) n)
  | 8 => if zH v (v 3 x.toNatClampNeg) n = x then nI 1 else nI 0
  | j => v (2 + j) x.toNatClampNeg
def zLaw (v : CV) (x w : Int32) (n : Nat) : Int32 := match zL v x with
  | false => -(nI 1)
  | true => match zix w 9 with
    | none => -(nI 2)
    | some j => zLw v x n j
theorem z9 {P : Nat → Prop} (h0 : P 0) (h1 : P 1) (h2 : P 2) (h3 : P 3) (h4 : P 4) (h5 : P 5) (h6 : P 6) (h7 : P 7) (h8 : P 8) : ∀ i, i < 9 → P i := by
  intro i hi
  match i, hi with
  | 0, _ => exact h0
  | 1, _ => exact h1
  | 2, _ => exact h2
  | 3, _ => exact h3
  | 4, _ => exact h4
  | 5, _ => exact h5
  | 6, _ => exact h6
  | 7, _ => exact h7
  | 8, _ => exact h8
  | n + 9, h => exact absurd h (by omega)
set_option maxHeartbeats 2000000 in
set_option maxRecDepth 20000 in
theorem mX3_law (v : CV) (hv : Nat → CV) (ho hk : Int32) (sv : Nat → CV) (fl ps : Nat → Int32) (pl x w : Int32) (n : Nat) (hm : WM v n) : ZM yX3_law cX3_law 3 (some .int) 4 88 [.ref 0, .int x, .int w] (hX v hv ho hk sv fl ps pl) (some (.int (zLaw v x w n))) (hX v hv ho hk sv fl ps pl) := by
  refine zm_of 3 qX3_law rfl rfl kX3_law rfl (Nat.le_of_ble_eq_true rfl) (fun C hC0 => ?_)
  refine zgo hC0 0 3 rfl ?_
  refine zcallVb hC0 (mX0_isLaw v x) (zX_C v hv ho hk sv fl ps pl v) rfl (Nat.le_of_ble_eq_true rfl) vX0_isLaw lk3_77 (by decide +kernel : decode cX3_law 5 = .ok (.invokevirtual 77, 3)) rfl rfl rfl (Nat.le_of_ble_eq_true rfl) (Nat.le_of_ble_eq_true rfl) (Nat.le_of_ble_eq_true rfl) ?_
  refine zgo hC0 4 1 rfl ?_
  refine And.intro (fun c => ?_) (fun c => ?_)
  rotate_left
  · refine zgo hC0 5 2 rfl ?_
    exact zret_i (by rw [zLaw, b2i_f c]; rfl)
  have hl := b2i_t c
  have hin := zL_in hm hl
  refine zgo hC0 7 1 rfl ?_
  rcases zcase w 9 (by decide) with ⟨j, hj, rfl⟩ | hw
  · have hz : zLaw v x (nI j) n = zLw v x n j := by rw [zLaw, hl, zix_at hj (by decide)]
    rw [hz] at hC0
    clear hz
    revert j
    refine z9 ?_ ?_ ?_ ?_ ?_ ?_ ?_ ?_ ?_
    · intro hC0
      refine zswI hC0 (by decide +kernel : decode cX3_law 14 = .ok (.tableswitch 155 0 8 #[50, 60, 70, 80, 90, 100, 110, 120, 129], 50)) (tgt := 64) (by decide +kernel) (50) (by decide +kernel) (by decide) ?_
      refine zgo hC0 9 6 rfl ?_
      exact And.intro hin (zret_i rfl)
    · intro hC0
      refine zswI hC0 (by decide +kernel : decode cX3_law 14 = .ok (.tableswitch 155 0 8 #[50, 60, 70, 80, 90, 100, 110, 120, 129], 50)) (tgt := 74) (by decide +kernel) (60) (by decide +kernel) (by decide) ?_
      refine zgo hC0 15 6 rfl ?_
      exact And.intro hin (zret_i rfl)
    · intro hC0
      refine zswI hC0 (by decide +kernel : decode cX3_law 14 = .ok (.tableswitch 155 0 8 #[50, 60, 70, 80, 90, 100, 110, 120, 129], 50)) (tgt := 84) (by decide +kernel) (70) (by decide +kernel) (by decide) ?_
      refine zgo hC0 21 6 rfl ?_
      exact And.intro hin (zret_i rfl)
    · intro hC0
      refine zswI hC0 (by decide +kernel : decode cX3_law 14 = .ok (.tableswitch 155 0 8 #[50, 60, 70, 80, 90, 100, 110, 120, 129], 50)) (tgt := 94) (by decide +kernel) (80) (by decide +kernel) (by decide) ?_
      refine zgo hC0 27 6 rfl ?_
      exact And.intro hin (zret_i rfl)
    · intro hC0
      refine zswI hC0 (by decide +kernel : decode cX3_law 14 = .ok (.tableswitch 155 0 8 #[50, 60, 70, 80, 90, 100, 110, 120, 129], 50)) (tgt := 104) (by decide +kernel) (90) (by decide +kernel) (by decide) ?_
      refine zgo hC0 33 6 rfl ?_
      exact And.intro hin (zret_i rfl)
    · intro hC0
      refine zswI hC0 (by decide +kernel : decode cX3_law 14 = .ok (.tableswitch 155 0 8 #[50, 60, 70, 80, 90, 100, 110, 120, 129], 50)) (tgt := 114) (by decide +kernel) (100) (by decide +kernel) (by decide) ?_
      refine zgo hC0 39 6 rfl ?_
      exact And.intro hin (zret_i rfl)
    · intro hC0
      refine zswI hC0 (by decide +kernel : decode cX3_law 14 = .ok (.tableswitch 155 0 8 #[50, 60, 70, 80, 90, 100, 110, 120, 129], 50)) (tgt := 124) (by decide +kernel) (110) (by decide +kernel) (by decide) ?_
      refine zgo hC0 45 6 rfl ?_
      exact And.intro hin (zret_i rfl)
    · intro hC0
      refine zswI hC0 (by decide +kernel : decode cX3_law 14 = .ok (.tableswitch 155 0 8 #[50, 60, 70, 80, 90, 100, 110, 120, 129], 50)) (tgt := 134) (by decide +kernel) (120) (by decide +kernel) (by decide) ?_
      refine zgo hC0 51 3 rfl ?_
      refine zcallVb hC0 (mX0_contradictionsOf v x n hm) (zX_C v hv ho hk sv fl ps pl v) rfl (Nat.le_of_ble_eq_true rfl) vX0_contradictionsOf lk3_145 (by decide +kernel : decode cX3_law 139 = .ok (.invokevirtual 145, 3)) rfl rfl rfl (Nat.le_of_ble_eq_true rfl) (Nat.le_of_ble_eq_true rfl) (Nat.le_of_ble_eq_true rfl) ?_
      refine zgo hC0 55 1 rfl ?_
      exact zret_i rfl
    · intro hC0
      refine zswI hC0 (by decide +kernel : decode cX3_law 14 = .ok (.tableswitch 155 0 8 #[50, 60, 70, 80, 90, 100, 110, 120, 129], 50)) (tgt := 143) (by decide +kernel) (129) (by decide +kernel) (by decide) ?_
      refine zgo hC0 56 7 rfl ?_
      refine And.intro hin ?_
      refine zcallVb hC0 (mX0_holderIn v (v 3 x.toNatClampNeg) n hm) (zX_C v hv ho hk sv fl ps pl v) rfl (Nat.le_of_ble_eq_true rfl) vX0_holderIn lk3_148 (by decide +kernel : decode cX3_law 156 = .ok (.invokevirtual 148, 3)) rfl rfl rfl (Nat.le_of_ble_eq_true rfl) (Nat.le_of_ble_eq_true rfl) (Nat.le_of_ble_eq_true rfl) ?_
      refine zgo hC0 64 2 rfl ?_
      refine And.intro (fun (c2 : ¬ zH v (v 3 x.toNatClampNeg) n = x) => ?_) (fun (c2 : zH v (v 3 x.toNatClampNeg) n = x) => ?_)
      · refine zgo hC0 68 2 rfl ?_
        exact zret_i (by rw [zLw, if_neg c2]; rfl)
      · refine zgo hC0 66 2 rfl ?_
        refine zgo hC0 69 1 rfl ?_
        exact zret_i (by rw [zLw, if_pos c2]; rfl)
  · have ho2 := zoutI (by decide) hw
    refine zswO hC0 (by decide +kernel : decode cX3_law 14 = .ok (.tableswitch 155 0 8 #[50, 60, 70, 80, 90, 100, 110, 120, 129], 50)) (tgt := 169) ((by omega)) (by decide) ?_
    refine zgo hC0 70 2 rfl ?_
    exact zret_i (by rw [zLaw, hl, zix_out hw]; rfl)
def zTp (v : CV) (t : Int32) (n : Nat) (j : Nat) : Int32 := match j with
  | 0 => nI (cnt (iT v t) n)
  | 1 => zST v t n
  | 2 => zH v t n
  | 3 => zCI v t n
  | _ => nI (cnt (fun c => decide (zWo v (nI c) t = zST v t n)) 5)
def zTopic (v : CV) (t w : Int32) (n : Nat) : Int32 := match zbt (nI 0) (nI 6) t with
  | false => -(nI 1)
  | true => match zix w 5 with
    | none => -(nI 2)
    | some j => zTp v t n j
theorem z5 {P : Nat → Prop} (h0 : P 0) (h1 : P 1) (h2 : P 2) (h3 : P 3) (h4 : P 4) : ∀ i, i < 5 → P i := zc5 h0 h1 h2 h3 h4
set_option maxHeartbeats 2000000 in
set_option maxRecDepth 20000 in
theorem mX3_topic (v : CV) (hv : Nat → CV) (ho hk : Int32) (sv : Nat → CV) (fl ps : Nat → Int32) (pl t w : Int32) (n : Nat) (hm : WM v n) : ZM yX3_topic cX3_topic 3 (some .int) 6 134 [.ref 0, .int t, .int w] (hX v hv ho hk sv fl ps pl) (some (.int (zTopic v t w n))) (hX v hv ho hk sv fl ps pl) := by
  refine zm_of 3 qX3_topic rfl rfl kX3_topic rfl (Nat.le_of_ble_eq_true rfl) (fun C hC0 => ?_)
  refine zgo hC0 0 1 rfl ?_
  refine zcallS hC0 (mX3_isTopic t (hX v hv ho hk sv fl ps pl)) vX3_isTopic lk3_56 (by decide +kernel : decode cX3_topic 1 = .ok (.invokestatic 56, 3)) rfl rfl (Nat.le_of_ble_eq_true rfl) (Nat.le_of_ble_eq_true rfl) (Nat.le_of_ble_eq_true rfl) ?_
  refine zgo hC0 2 1 rfl ?_
  refine And.intro (fun c => ?_) (fun c => ?_)
  rotate_left
  · refine zgo hC0 3 2 rfl ?_
    exact zret_i (by rw [zTopic, b2i_f c]; rfl)
  have hl := b2i_t c
  refine zgo hC0 5 1 rfl ?_
  rcases zcase w 5 (by decide) with ⟨j, hj, rfl⟩ | hw
  · have hz : zTopic v t (nI j) n = zTp v t n j := by rw [zTopic, hl, zix_at hj (by decide)]
    rw [hz] at hC0
    clear hz
    revert j
    refine z5 ?_ ?_ ?_ ?_ ?_
    · intro hC0
      refine zswI hC0 (by decide +kernel : decode cX3_topic 10 = .ok (.tableswitch 79 0 4 #[34, 43, 52, 61, 70], 34)) (tgt := 44) (by decide +kernel) (34) (by decide +kernel) (by decide) ?_
      refine zgo hC0 7 3 rfl ?_
      refine zcallVb hC0 (mX0_lawsInForceIn v t n hm) (zX_C v hv ho hk sv fl ps pl v) rfl (Nat.le_of_ble_eq_true rfl) vX0_lawsInForceIn lk3_151 (by decide +kernel : decode cX3_topic 49 = .ok (.invokevirtual 151, 3)) rfl rfl rfl (Nat.le_of_ble_eq_true rfl) (Nat.le_of_ble_eq_true rfl) (Nat.le_of_ble_eq_true rfl) ?_
      refine zgo hC0 11 1 rfl ?_
      exact zret_i rfl
    · intro hC0
      refine zswI hC0 (by decide +kernel : decode cX3_topic 10 = .ok (.tableswitch 79 0 4 #[34, 43, 52, 61, 70], 34)) (tgt := 53) (by decide +kernel) (43) (by decide +kernel) (by decide) ?_
      refine zgo hC0 12 3 rfl ?_
      refine zcallVb hC0 (mX0_stanceHeldIn v t n hm) (zX_C v hv ho hk sv fl ps pl v) rfl (Nat.le_of_ble_eq_true rfl) vX0_stanceHeldIn lk3_154 (by decide +kernel : decode cX3_topic 58 = .ok (.invokevirtual 154, 3)) rfl rfl rfl (Nat.le_of_ble_eq_true rfl) (Nat.le_of_ble_eq_true rfl) (Nat.le_of_ble_eq_true rfl) ?_
      refine zgo hC0 16 1 rfl ?_
      exact zret_i rfl
    · intro hC0
      refine zswI hC0 (by decide +kernel : decode cX3_topic 10 = .ok (.tableswitch 79 0 4 #[34, 43, 52, 61, 70], 34)) (tgt := 62) (by decide +kernel) (52) (by decide +kernel) (by decide) ?_
      refine zgo hC0 17 3 rfl ?_
      refine zcallVb hC0 (mX0_holderIn v t n hm) (zX_C v hv ho hk sv fl ps pl v) rfl (Nat.le_of_ble_eq_true rfl) vX0_holderIn lk3_148 (by decide +kernel : decode cX3_topic 67 = .ok (.invokevirtual 148, 3)) rfl rfl rfl (Nat.le_of_ble_eq_true rfl) (Nat.le_of_ble_eq_true rfl) (Nat.le_of_ble_eq_true rfl) ?_
      refine zgo hC0 21 1 rfl ?_
      exact zret_i rfl
    · intro hC0
      refine zswI hC0 (by decide +kernel : decode cX3_topic 10 = .ok (.tableswitch 79 0 4 #[34, 43, 52, 61, 70], 34)) (tgt := 71) (by decide +kernel) (61) (by decide +kernel) (by decide) ?_
      refine zgo hC0 22 3 rfl ?_
      refine zcallVb hC0 (mX0_contradictionsIn v t n hm) (zX_C v hv ho hk sv fl ps pl v) rfl (Nat.le_of_ble_eq_true rfl) vX0_contradictionsIn lk3_157 (by decide +kernel : decode cX3_topic 76 = .ok (.invokevirtual 157, 3)) rfl rfl rfl (Nat.le_of_ble_eq_true rfl) (Nat.le_of_ble_eq_true rfl) (Nat.le_of_ble_eq_true rfl) ?_
      refine zgo hC0 26 1 rfl ?_
      exact zret_i rfl
    · intro hC0
      refine zswI hC0 (by decide +kernel : decode cX3_topic 10 = .ok (.tableswitch 79 0 4 #[34, 43, 52, 61, 70], 34)) (tgt := 80) (by decide +kernel) (70) (by decide +kernel) (by decide) ?_
      refine zgo hC0 27 3 rfl ?_
      refine zcallVb hC0 (mX0_councillorsContentIn v t n hm) (zX_C v hv ho hk sv fl ps pl v) rfl (Nat.le_of_ble_eq_true rfl) vX0_councillorsContentIn lk3_160 (by decide +kernel : decode cX3_topic 85 = .ok (.invokevirtual 160, 3)) rfl rfl rfl (Nat.le_of_ble_eq_true rfl) (Nat.le_of_ble_eq_true rfl) (Nat.le_of_ble_eq_true rfl) ?_
      refine zgo hC0 31 1 rfl ?_
      exact zret_i rfl
  · have ho2 := zoutI (by decide) hw
    refine zswO hC0 (by decide +kernel : decode cX3_topic 10 = .ok (.tableswitch 79 0 4 #[34, 43, 52, 61, 70], 34)) (tgt := 89) ((by omega)) (by decide) ?_
    refine zgo hC0 32 2 rfl ?_
    exact zret_i (by rw [zTopic, hl, zix_out hw]; rfl)
def zCn (v : CV) (c w : Int32) (n : Nat) : Int32 := match zbt (nI 0) (nI 5) c with
  | false => -(nI 1)
  | true => match zbt (nI 0) (nI 6) w with
    | true => zWo v c w
    | false => if w = nI 6 then zor (fun t => decide (zWo v c (nI t) = zST v (nI t) n)) 6 else if w = nI 7 then nI (cnt (iWL v c) n) else -(nI 2)
set_option maxHeartbeats 2000000 in
set_option maxRecDepth 20000 in
theorem mX3_councillor (v : CV) (hv : Nat → CV) (ho hk : Int32) (sv : Nat → CV) (fl ps : Nat → Int32) (pl c w : Int32) (n : Nat) (hm : WM v n) : ZM yX3_councillor cX3_councillor 3 (some .int) 6 133 [.ref 0, .int c, .int w] (hX v hv ho hk sv fl ps pl) (some (.int (zCn v c w n))) (hX v hv ho hk sv fl ps pl) := by
  refine zm_of 3 qX3_councillor rfl rfl kX3_councillor rfl (Nat.le_of_ble_eq_true rfl) (fun C hC0 => ?_)
  refine zgo hC0 0 1 rfl ?_
  refine zcallS hC0 (mX3_isCouncillor c (hX v hv ho hk sv fl ps pl)) vX3_isCouncillor lk3_52 (by decide +kernel : decode cX3_councillor 1 = .ok (.invokestatic 52, 3)) rfl rfl (Nat.le_of_ble_eq_true rfl) (Nat.le_of_ble_eq_true rfl) (Nat.le_of_ble_eq_true rfl) ?_
  refine zgo hC0 2 1 rfl ?_
  refine And.intro (fun c1 => ?_) (fun c1 => ?_)
  rotate_left
  · refine zgo hC0 3 2 rfl ?_
    exact zret_i (by rw [zCn, b2i_f c1]; rfl)
  refine zgo hC0 5 1 rfl ?_
  refine zcallS hC0 (mX3_isTopic w (hX v hv ho hk sv fl ps pl)) vX3_isTopic lk3_56 (by decide +kernel : decode cX3_councillor 10 = .ok (.invokestatic 56, 3)) rfl rfl (Nat.le_of_ble_eq_true rfl) (Nat.le_of_ble_eq_true rfl) (Nat.le_of_ble_eq_true rfl) ?_
  refine zgo hC0 7 1 rfl ?_
  refine And.intro (fun c2 => ?_) (fun c2 => ?_)
  rotate_left
  · refine zgo hC0 8 4 rfl ?_
    refine zcallVb hC0 (mX0_wishOf v c w) (zX_C v hv ho hk sv fl ps pl v) rfl (Nat.le_of_ble_eq_true rfl) vX0_wishOf lk3_62 (by decide +kernel : decode cX3_councillor 22 = .ok (.invokevirtual 62, 3)) rfl rfl rfl (Nat.le_of_ble_eq_true rfl) (Nat.le_of_ble_eq_true rfl) (Nat.le_of_ble_eq_true rfl) ?_
    refine zgo hC0 13 1 rfl ?_
    exact zret_i (by rw [zCn, b2i_t c1, b2i_t c2])
  refine zgo hC0 14 1 rfl ?_
  have ok : (((#[(6, 25), (7, 34)] : Array (Int × Int)).toList.zip ((#[(6, 25), (7, 34)] : Array (Int × Int)).toList.drop 1)).all (fun (a, next) => a.1 < next.1) = true) := by decide +kernel
  have d1 : decode cX3_councillor 27 = .ok (.lookupswitch 43 #[(6, 25), (7, 34)], 25) := by decide +kernel
  by_cases h6 : w = nI 6
  · have hz : zCn v c w n = zor (fun t => decide (zWo v c (nI t) = zST v (nI t) n)) 6 := by rw [zCn, b2i_t c1, b2i_f c2]; exact if_pos h6
    rw [hz] at hC0
    subst h6
    refine zlsw hC0 d1 ok (tgt := 52) (by decide +kernel) ?_
    refine zgo hC0 16 3 rfl ?_
    refine zcallVb hC0 (mX0_topicsAsWishedBy v c n hm) (zX_C v hv ho hk sv fl ps pl v) rfl (Nat.le_of_ble_eq_true rfl) vX0_topicsAsWishedBy lk3_163 (by decide +kernel : decode cX3_councillor 57 = .ok (.invokevirtual 163, 3)) rfl rfl rfl (Nat.le_of_ble_eq_true rfl) (Nat.le_of_ble_eq_true rfl) (Nat.le_of_ble_eq_true rfl) ?_
    refine zgo hC0 20 1 rfl ?_
    exact zret_i rfl
  · by_cases h7 : w = nI 7
    · have hz : zCn v c w n = nI (cnt (iWL v c) n) := by rw [zCn, b2i_t c1, b2i_f c2]; exact (if_neg h6).trans (if_pos h7)
      rw [hz] at hC0
      subst h7
      refine zlsw hC0 d1 ok (tgt := 61) (by decide +kernel) ?_
      refine zgo hC0 21 3 rfl ?_
      refine zcallVb hC0 (mX0_lawsAsWishedBy v c n hm) (zX_C v hv ho hk sv fl ps pl v) rfl (Nat.le_of_ble_eq_true rfl) vX0_lawsAsWishedBy lk3_166 (by decide +kernel : decode cX3_councillor 66 = .ok (.invokevirtual 166, 3)) rfl rfl rfl (Nat.le_of_ble_eq_true rfl) (Nat.le_of_ble_eq_true rfl) (Nat.le_of_ble_eq_true rfl) ?_
      refine zgo hC0 25 1 rfl ?_
      exact zret_i rfl
    · have hz : zCn v c w n = -(nI 2) := by rw [zCn, b2i_t c1, b2i_f c2]; exact (if_neg h6).trans (if_neg h7)
      rw [hz] at hC0
      have hq : Op.lookupswitch.offset (#[(6, 25), (7, 34)] : Array (Int × Int)).toList 43 w.toInt = 43 := by
        rw [show (#[(6, 25), (7, 34)] : Array (Int × Int)).toList = [(6, 25), (7, 34)] from rfl, lv_osw h6 (by decide), lv_osw h7 (by decide)]
        rfl
      refine zlsw hC0 d1 ok (tgt := 70) (by rw [hq]; rfl) ?_
      refine zgo hC0 26 2 rfl ?_
      exact zret_i rfl
set_option maxHeartbeats 2000000 in
set_option maxRecDepth 20000 in
theorem mX3_wipe (v : CV) (hv : Nat → CV) (ho hk : Int32) (sv : Nat → CV) (fl ps : Nat → Int32) (pl : Int32) : ZM yX3_wipe cX3_wipe 2 (some .int) 1 20 [.ref 0] (hX v hv ho hk sv fl ps pl) (some (.int pl)) (hX v hv ho hk sv fl ps (nI 0)) := by
  refine zm_of 3 qX3_wipe rfl rfl kX3_wipe rfl (Nat.le_of_ble_eq_true rfl) (fun C hC0 => ?_)
  refine zgo hC0 0 6 rfl ?_
  refine zcallVb hC0 (mX2_clear ps pl) (zX_P v hv ho hk sv fl ps pl ps (nI 0)) rfl (Nat.le_of_ble_eq_true rfl) vX2_clear lk3_124 (by decide +kernel : decode cX3_wipe 12 = .ok (.invokevirtual 124, 3)) rfl rfl rfl (Nat.le_of_ble_eq_true rfl) (Nat.le_of_ble_eq_true rfl) (Nat.le_of_ble_eq_true rfl) ?_
  refine zgo hC0 7 2 rfl ?_
  exact zret_i rfl
def zCo (v : CV) (hk pl : Int32) (n : Nat) (j : Nat) : Int32 := match j with
  | 3 => v 10 0
  | 4 => v 9 0
  | 5 => nI (cnt (iF v) n)
  | 6 => v 9 0 - nI (cnt (iF v) n)
  | 7 => zsm (iW v) n
  | 8 => nI (zps (fun i j => zCT v (nI i) (nI j)) n n)
  | 9 => zsm (fun t => zCI v (nI t) n) 6
  | 10 => nI (cnt (fun t => decide (¬ zH v (nI t) n = -(nI 6))) 6)
  | 11 => v 11 0
  | 12 => pl
  | 13 => hk
  | j => v 0 j
def zCount (v : CV) (hk pl w : Int32) (n : Nat) : Int32 := match zix w 14 with
  | none => -(nI 2)
  | some j => zCo v hk pl n j
theorem z14 {P : Nat → Prop} (h0 : P 0) (h1 : P 1) (h2 : P 2) (h3 : P 3) (h4 : P 4) (h5 : P 5) (h6 : P 6) (h7 : P 7) (h8 : P 8) (h9 : P 9) (h10 : P 10) (h11 : P 11) (h12 : P 12) (h13 : P 13) : ∀ i, i < 14 → P i := by
  intro i hi
  rcases Nat.lt_or_ge i 9 with h | h
  · exact z9 h0 h1 h2 h3 h4 h5 h6 h7 h8 i h
  · rcases (show i = 9 ∨ i = 10 ∨ i = 11 ∨ i = 12 ∨ i = 13 by omega) with rfl | rfl | rfl | rfl | rfl
    · exact h9
    · exact h10
    · exact h11
    · exact h12
    · exact h13
set_option maxHeartbeats 2000000 in
set_option maxRecDepth 20000 in
theorem mX3_count (v : CV) (hv : Nat → CV) (ho hk : Int32) (sv : Nat → CV) (fl ps : Nat → Int32) (pl w : Int32) (n : Nat) (hm : WM v n) : ZM yX3_count cX3_count 2 (some .int) 6 134 [.ref 0, .int w] (hX v hv ho hk sv fl ps pl) (some (.int (zCount v hk pl w n))) (hX v hv ho hk sv fl ps pl) := by
  refine zm_of 3 qX3_count rfl rfl kX3_count rfl (Nat.le_of_ble_eq_true rfl) (fun C hC0 => ?_)
  rcases zcase w 14 (by decide) with ⟨j, hj, rfl⟩ | hw
  · have hz : zCount v hk pl (nI j) n = zCo v hk pl n j := by rw [zCount, zix_at hj (by decide)]
    rw [hz] at hC0
    clear hz
    revert j
    refine z14 ?_ ?_ ?_ ?_ ?_ ?_ ?_ ?_ ?_ ?_ ?_ ?_ ?_ ?_
    · intro hC0
      refine zgo hC0 0 2 rfl ?_
      refine And.intro (fun c => absurd c (by decide)) (fun _ => ?_)
      refine zgo hC0 2 3 rfl ?_
      refine And.intro (fun c => absurd c (by decide)) (fun _ => ?_)
      refine zgo hC0 5 6 rfl ?_
      exact And.intro (zin3 (k := 0)) (zret_i rfl)
    · intro hC0
      refine zgo hC0 0 2 rfl ?_
      refine And.intro (fun c => absurd c (by decide)) (fun _ => ?_)
      refine zgo hC0 2 3 rfl ?_
      refine And.intro (fun c => absurd c (by decide)) (fun _ => ?_)
      refine zgo hC0 5 6 rfl ?_
      exact And.intro (zin3 (k := 1)) (zret_i rfl)
    · intro hC0
      refine zgo hC0 0 2 rfl ?_
      refine And.intro (fun c => absurd c (by decide)) (fun _ => ?_)
      refine zgo hC0 2 3 rfl ?_
      refine And.intro (fun c => absurd c (by decide)) (fun _ => ?_)
      refine zgo hC0 5 6 rfl ?_
      exact And.intro (zin3 (k := 2)) (zret_i rfl)
    · intro hC0
      refine zgo hC0 0 2 rfl ?_
      refine And.intro (fun c => absurd c (by decide)) (fun _ => ?_)
      refine zgo hC0 2 3 rfl ?_
      refine And.intro (fun _ => ?_) (fun c => absurd (by decide) c)
      refine zgo hC0 11 1 rfl ?_
      refine zswI hC0 (by decide +kernel : decode cX3_count 20 = .ok (.tableswitch 156 3 13 #[60, 68, 76, 84, 100, 108, 116, 124, 132, 140, 148], 60)) (tgt := 80) (by decide +kernel) (60) (by decide +kernel) (by decide) ?_
      refine zgo hC0 13 4 rfl ?_
      exact zret_i rfl
    · intro hC0
      refine zgo hC0 0 2 rfl ?_
      refine And.intro (fun c => absurd c (by decide)) (fun _ => ?_)
      refine zgo hC0 2 3 rfl ?_
      refine And.intro (fun _ => ?_) (fun c => absurd (by decide) c)
      refine zgo hC0 11 1 rfl ?_
      refine zswI hC0 (by decide +kernel : decode cX3_count 20 = .ok (.tableswitch 156 3 13 #[60, 68, 76, 84, 100, 108, 116, 124, 132, 140, 148], 60)) (tgt := 88) (by decide +kernel) (68) (by decide +kernel) (by decide) ?_
      refine zgo hC0 17 4 rfl ?_
      exact zret_i rfl
    · intro hC0
      refine zgo hC0 0 2 rfl ?_
      refine And.intro (fun c => absurd c (by decide)) (fun _ => ?_)
      refine zgo hC0 2 3 rfl ?_
      refine And.intro (fun _ => ?_) (fun c => absurd (by decide) c)
      refine zgo hC0 11 1 rfl ?_
      refine zswI hC0 (by decide +kernel : decode cX3_count 20 = .ok (.tableswitch 156 3 13 #[60, 68, 76, 84, 100, 108, 116, 124, 132, 140, 148], 60)) (tgt := 96) (by decide +kernel) (76) (by decide +kernel) (by decide) ?_
      refine zgo hC0 21 2 rfl ?_
      refine zcallVb hC0 (mX0_lawsInForce v n hm) (zX_C v hv ho hk sv fl ps pl v) rfl (Nat.le_of_ble_eq_true rfl) vX0_lawsInForce lk3_172 (by decide +kernel : decode cX3_count 100 = .ok (.invokevirtual 172, 3)) rfl rfl rfl (Nat.le_of_ble_eq_true rfl) (Nat.le_of_ble_eq_true rfl) (Nat.le_of_ble_eq_true rfl) ?_
      refine zgo hC0 24 1 rfl ?_
      exact zret_i rfl
    · intro hC0
      refine zgo hC0 0 2 rfl ?_
      refine And.intro (fun c => absurd c (by decide)) (fun _ => ?_)
      refine zgo hC0 2 3 rfl ?_
      refine And.intro (fun _ => ?_) (fun c => absurd (by decide) c)
      refine zgo hC0 11 1 rfl ?_
      refine zswI hC0 (by decide +kernel : decode cX3_count 20 = .ok (.tableswitch 156 3 13 #[60, 68, 76, 84, 100, 108, 116, 124, 132, 140, 148], 60)) (tgt := 104) (by decide +kernel) (84) (by decide +kernel) (by decide) ?_
      refine zgo hC0 25 5 rfl ?_
      refine zcallVb hC0 (mX0_lawsInForce v n hm) (zX_C v hv ho hk sv fl ps pl v) rfl (Nat.le_of_ble_eq_true rfl) vX0_lawsInForce lk3_172 (by decide +kernel : decode cX3_count 115 = .ok (.invokevirtual 172, 3)) rfl rfl rfl (Nat.le_of_ble_eq_true rfl) (Nat.le_of_ble_eq_true rfl) (Nat.le_of_ble_eq_true rfl) ?_
      refine zgo hC0 31 2 rfl ?_
      exact zret_i rfl
    · intro hC0
      refine zgo hC0 0 2 rfl ?_
      refine And.intro (fun c => absurd c (by decide)) (fun _ => ?_)
      refine zgo hC0 2 3 rfl ?_
      refine And.intro (fun _ => ?_) (fun c => absurd (by decide) c)
      refine zgo hC0 11 1 rfl ?_
      refine zswI hC0 (by decide +kernel : decode cX3_count 20 = .ok (.tableswitch 156 3 13 #[60, 68, 76, 84, 100, 108, 116, 124, 132, 140, 148], 60)) (tgt := 120) (by decide +kernel) (100) (by decide +kernel) (by decide) ?_
      refine zgo hC0 33 2 rfl ?_
      refine zcallVb hC0 (mX0_wordsInForce v n hm) (zX_C v hv ho hk sv fl ps pl v) rfl (Nat.le_of_ble_eq_true rfl) vX0_wordsInForce lk3_175 (by decide +kernel : decode cX3_count 124 = .ok (.invokevirtual 175, 3)) rfl rfl rfl (Nat.le_of_ble_eq_true rfl) (Nat.le_of_ble_eq_true rfl) (Nat.le_of_ble_eq_true rfl) ?_
      refine zgo hC0 36 1 rfl ?_
      exact zret_i rfl
    · intro hC0
      refine zgo hC0 0 2 rfl ?_
      refine And.intro (fun c => absurd c (by decide)) (fun _ => ?_)
      refine zgo hC0 2 3 rfl ?_
      refine And.intro (fun _ => ?_) (fun c => absurd (by decide) c)
      refine zgo hC0 11 1 rfl ?_
      refine zswI hC0 (by decide +kernel : decode cX3_count 20 = .ok (.tableswitch 156 3 13 #[60, 68, 76, 84, 100, 108, 116, 124, 132, 140, 148], 60)) (tgt := 128) (by decide +kernel) (108) (by decide +kernel) (by decide) ?_
      refine zgo hC0 37 2 rfl ?_
      refine zcallVb hC0 (mX0_contradictionsByPairs v n hm) (zX_C v hv ho hk sv fl ps pl v) rfl (Nat.le_of_ble_eq_true rfl) vX0_contradictionsByPairs lk3_178 (by decide +kernel : decode cX3_count 132 = .ok (.invokevirtual 178, 3)) rfl rfl rfl (Nat.le_of_ble_eq_true rfl) (Nat.le_of_ble_eq_true rfl) (Nat.le_of_ble_eq_true rfl) ?_
      refine zgo hC0 40 1 rfl ?_
      exact zret_i rfl
    · intro hC0
      refine zgo hC0 0 2 rfl ?_
      refine And.intro (fun c => absurd c (by decide)) (fun _ => ?_)
      refine zgo hC0 2 3 rfl ?_
      refine And.intro (fun _ => ?_) (fun c => absurd (by decide) c)
      refine zgo hC0 11 1 rfl ?_
      refine zswI hC0 (by decide +kernel : decode cX3_count 20 = .ok (.tableswitch 156 3 13 #[60, 68, 76, 84, 100, 108, 116, 124, 132, 140, 148], 60)) (tgt := 136) (by decide +kernel) (116) (by decide +kernel) (by decide) ?_
      refine zgo hC0 41 2 rfl ?_
      refine zcallVb hC0 (mX0_contradictionsByTopics v n hm) (zX_C v hv ho hk sv fl ps pl v) rfl (Nat.le_of_ble_eq_true rfl) vX0_contradictionsByTopics lk3_181 (by decide +kernel : decode cX3_count 140 = .ok (.invokevirtual 181, 3)) rfl rfl rfl (Nat.le_of_ble_eq_true rfl) (Nat.le_of_ble_eq_true rfl) (Nat.le_of_ble_eq_true rfl) ?_
      refine zgo hC0 44 1 rfl ?_
      exact zret_i rfl
    · intro hC0
      refine zgo hC0 0 2 rfl ?_
      refine And.intro (fun c => absurd c (by decide)) (fun _ => ?_)
      refine zgo hC0 2 3 rfl ?_
      refine And.intro (fun _ => ?_) (fun c => absurd (by decide) c)
      refine zgo hC0 11 1 rfl ?_
      refine zswI hC0 (by decide +kernel : decode cX3_count 20 = .ok (.tableswitch 156 3 13 #[60, 68, 76, 84, 100, 108, 116, 124, 132, 140, 148], 60)) (tgt := 144) (by decide +kernel) (124) (by decide +kernel) (by decide) ?_
      refine zgo hC0 45 2 rfl ?_
      refine zcallVb hC0 (mX0_topicsWithHolder v n hm) (zX_C v hv ho hk sv fl ps pl v) rfl (Nat.le_of_ble_eq_true rfl) vX0_topicsWithHolder lk3_184 (by decide +kernel : decode cX3_count 148 = .ok (.invokevirtual 184, 3)) rfl rfl rfl (Nat.le_of_ble_eq_true rfl) (Nat.le_of_ble_eq_true rfl) (Nat.le_of_ble_eq_true rfl) ?_
      refine zgo hC0 48 1 rfl ?_
      exact zret_i rfl
    · intro hC0
      refine zgo hC0 0 2 rfl ?_
      refine And.intro (fun c => absurd c (by decide)) (fun _ => ?_)
      refine zgo hC0 2 3 rfl ?_
      refine And.intro (fun _ => ?_) (fun c => absurd (by decide) c)
      refine zgo hC0 11 1 rfl ?_
      refine zswI hC0 (by decide +kernel : decode cX3_count 20 = .ok (.tableswitch 156 3 13 #[60, 68, 76, 84, 100, 108, 116, 124, 132, 140, 148], 60)) (tgt := 152) (by decide +kernel) (132) (by decide +kernel) (by decide) ?_
      refine zgo hC0 49 4 rfl ?_
      exact zret_i rfl
    · intro hC0
      refine zgo hC0 0 2 rfl ?_
      refine And.intro (fun c => absurd c (by decide)) (fun _ => ?_)
      refine zgo hC0 2 3 rfl ?_
      refine And.intro (fun _ => ?_) (fun c => absurd (by decide) c)
      refine zgo hC0 11 1 rfl ?_
      refine zswI hC0 (by decide +kernel : decode cX3_count 20 = .ok (.tableswitch 156 3 13 #[60, 68, 76, 84, 100, 108, 116, 124, 132, 140, 148], 60)) (tgt := 160) (by decide +kernel) (140) (by decide +kernel) (by decide) ?_
      refine zgo hC0 53 4 rfl ?_
      exact zret_i rfl
    · intro hC0
      refine zgo hC0 0 2 rfl ?_
      refine And.intro (fun c => absurd c (by decide)) (fun _ => ?_)
      refine zgo hC0 2 3 rfl ?_
      refine And.intro (fun _ => ?_) (fun c => absurd (by decide) c)
      refine zgo hC0 11 1 rfl ?_
      refine zswI hC0 (by decide +kernel : decode cX3_count 20 = .ok (.tableswitch 156 3 13 #[60, 68, 76, 84, 100, 108, 116, 124, 132, 140, 148], 60)) (tgt := 168) (by decide +kernel) (148) (by decide +kernel) (by decide) ?_
      refine zgo hC0 57 4 rfl ?_
      exact zret_i rfl
  · have ho2 := zoutI (by decide) hw
    have hz : zCount v hk pl w n = -(nI 2) := by rw [zCount, zix_out hw]
    rw [hz] at hC0
    have at19 : C 19 [some (.ref 0), some (.int w)] [] (hX v hv ho hk sv fl ps pl) := by
      refine zgo hC0 11 1 rfl ?_
      refine zswO hC0 (by decide +kernel : decode cX3_count 20 = .ok (.tableswitch 156 3 13 #[60, 68, 76, 84, 100, 108, 116, 124, 132, 140, 148], 60)) (tgt := 176) ((by omega)) (by decide) ?_
      refine zgo hC0 61 2 rfl ?_
      exact zret_i rfl
    refine zgo hC0 0 2 rfl ?_
    refine And.intro (fun _ => at19) (fun c => ?_)
    refine zgo hC0 2 3 rfl ?_
    refine And.intro (fun _ => at19) (fun (c2 : ¬ nI 3 ≤ w) => ?_)
    rcases hw with q | q
    · exact absurd q c
    · exact absurd (Int32.le_trans (by decide) q) c2
