/-! RepealedLawsModel: charactersOf, put -/
theorem zq_ofU (a : Nat) : (lN a).toUInt64 = UInt64.ofNat a := rfl
theorem zq_shr {a : Nat} (ha : a < 2 ^ 64) {k : Nat} (hk : k < 8) : zlushr (lN a) (nI (8 * k)) = lN (a / 2 ^ (8 * k)) := by
  have e1 : (nI (8 * k)).toInt64.toUInt64 &&& Int64.toUInt64 63 = UInt64.ofNat (8 * k) := by
    rcases (show k = 0 ∨ k = 1 ∨ k = 2 ∨ k = 3 ∨ k = 4 ∨ k = 5 ∨ k = 6 ∨ k = 7 by omega) with rfl | rfl | rfl | rfl | rfl | rfl | rfl | rfl <;> decide +kernel
  unfold zlushr
  rw [e1, zq_ofU]
  show (UInt64.ofNat a >>> UInt64.ofNat (8 * k)).toInt64 = (UInt64.ofNat (a / 2 ^ (8 * k))).toInt64
  congr 1
  apply UInt64.toNat_inj.mp
  have h1 : a / 2 ^ (8 * k) ≤ a := Nat.div_le_self _ _
  rw [UInt64.toNat_shiftRight, UInt64.toNat_ofNat_of_lt' (show a < UInt64.size from ha), UInt64.toNat_ofNat_of_lt' (show 8 * k < UInt64.size by show 8 * k < 18446744073709551616; omega), UInt64.toNat_ofNat_of_lt' (show a / 2 ^ (8 * k) < UInt64.size from Nat.lt_of_le_of_lt h1 ha), Nat.mod_eq_of_lt (by omega), Nat.shiftRight_eq_div_pow]
theorem zq_and {a : Nat} (ha : a < 2 ^ 64) : lN a &&& lN 255 = lN (a % 256) := by
  apply Int64.toBitVec_inj.mp
  apply BitVec.eq_of_toNat_eq
  rw [Int64.toBitVec_and, BitVec.toNat_and]
  show (a % 2 ^ 64) &&& (255 % 2 ^ 64) = (a % 256) % 2 ^ 64
  rw [Nat.mod_eq_of_lt ha, show (255 % 2 ^ 64) = 2 ^ 8 - 1 by decide, Nat.and_two_pow_sub_one_eq_mod, Nat.mod_eq_of_lt (show a % 256 < 2 ^ 64 by omega)]
theorem zq_ex (r : Int64) : ∃ a, a < 2 ^ 64 ∧ r = lN a := ⟨r.toUInt64.toNat, r.toUInt64.toNat_lt, by
  apply Int64.toBitVec_inj.mp
  apply BitVec.eq_of_toNat_eq
  show r.toBitVec.toNat = r.toUInt64.toNat % 2 ^ 64
  rw [Nat.mod_eq_of_lt r.toUInt64.toNat_lt]
  rfl⟩
theorem zq_cmp0 (x y : Int64) : lg_cmp x y = 0 ↔ x = y := by
  constructor
  · intro h
    have h1 : ¬ lg_cmp x y < 0 := by rw [h]; decide
    have h2 : ¬ 0 < lg_cmp x y := by rw [h]; decide
    rw [zcmp_lt] at h1
    rw [zcmp_gt] at h2
    rw [← Int64.toInt_inj]
    omega
  · rintro rfl
    have h1 : ¬ lg_cmp x x < 0 := by rw [zcmp_lt]; omega
    have h2 : ¬ 0 < lg_cmp x x := by rw [zcmp_gt]; omega
    have h3 := Int32.not_lt.mp h1
    have h4 := Int32.not_lt.mp h2
    exact Int32.le_antisymm h4 h3
theorem zq_00 {a : Nat} (ha : a < 2 ^ 64) : lg_cmp (lN a) (lN 0) = 0 ↔ a = 0 := by
  rw [zq_cmp0]
  constructor
  · intro h
    have h1 : (lN a).toUInt64.toNat = (lN 0).toUInt64.toNat := by rw [h]
    rw [zq_ofU, zq_ofU, UInt64.toNat_ofNat_of_lt' (show a < UInt64.size from ha), UInt64.toNat_ofNat_of_lt' (by decide)] at h1
    exact h1
  · rintro rfl
    rfl
theorem zSI_s {f m a : Nat} (ha : a < 2 ^ 64) : zSI (f + 1) m (lN a) = if a = 0 then nI m else match zin64 (lN a &&& lN 255) (lN 33) (lN 126) with
    | true => zSI f (m + 1) (lN (a / 256))
    | false => nI 0 := by
  rw [zSI]
  by_cases h0 : a = 0
  · rw [if_pos ((zq_00 ha).mpr h0), if_pos h0]
  · rw [if_neg (fun q => h0 ((zq_00 ha).mp q)), if_neg h0]
    by_cases h1 : lg_cmp (lN a &&& lN 255) (lN 33) < 0
    · rw [if_pos h1, zin64, decide_eq_false (fun q => q h1)]
      rfl
    · rw [if_neg h1, zin64, decide_eq_true h1]
      by_cases h2 : lg_cmp (lN a &&& lN 255) (lN 126) ≤ 0
      · rw [if_pos h2, decide_eq_true (Int32.not_lt.mpr h2)]
        show zSI f (m + 1) (zlushr (lN a) (nI (8 * 1))) = _
        rw [zq_shr ha (by decide)]
        rfl
      · rw [if_neg h2, decide_eq_false (fun q => h2 (Int32.not_lt.mp q))]
        rfl
theorem zin_0 : zin64 (lN 0 &&& lN 255) (lN 33) (lN 126) = false := by
  rw [zq_and (by decide)]
  refine zand_f1 (decide_eq_false (fun q => q ((zcmp_lt _ _).mpr ?_)))
  rw [lN_toInt (by decide), lN_toInt (by decide)]
  decide
theorem zpow0 {a f : Nat} (h : a < 2 ^ (8 * f)) (hf : f = 0) : a = 0 := by
  subst hf
  exact Nat.lt_one_iff.mp h
set_option maxHeartbeats 2000000 in
set_option maxRecDepth 20000 in
theorem mX4_charactersOf (c : Int64) (h : List ZC) : ZM yX4_charactersOf cX4_charactersOf 5 (some .int) 1 25 [.long c] h (some (.int (zSI 8 0 c))) h := by
  refine zm_of 4 qX4_charactersOf rfl rfl kX4_charactersOf rfl (Nat.le_of_ble_eq_true rfl) (fun C hC0 => ?_)
  obtain ⟨a0, ha0, rfl⟩ := zq_ex c
  have fin : ∀ m a : Nat, a < 2 ^ 64 → (a = 0 → nI m = zSI 8 0 (lN a0)) → (¬ a = 0 → nI 0 = zSI 8 0 (lN a0)) → C 40 [some (.long (lN a0)), none, some (.long (lN a)), none, some (.int (nI m))] [] h := by
    intro m a ha k1 k2
    refine zgo hC0 20 4 rfl ?_
    refine And.intro (fun (c1 : ¬ lg_cmp (lN a) (lN 0) = 0) => ?_) (fun (c1 : lg_cmp (lN a) (lN 0) = 0) => ?_)
    · refine zgo hC0 26 2 rfl ?_
      exact zret_i (k2 (fun q => c1 ((zq_00 ha).mpr q))).symm
    · refine zgo hC0 24 2 rfl ?_
      refine zgo hC0 27 1 rfl ?_
      exact zret_i (k1 ((zq_00 ha).mp c1)).symm
  have key : ∀ (f m a : Nat), f + m = 8 → a < 2 ^ 64 → a < 2 ^ (8 * f) → zSI f m (lN a) = zSI 8 0 (lN a0) → C 5 [some (.long (lN a0)), none, some (.long (lN a)), none, some (.int (nI m))] [] h := by
    intro f
    induction f with
    | zero =>
      intro m a hf ha hb hz
      refine zgo hC0 4 3 rfl ?_
      refine And.intro (fun _ => ?_) (fun (c1 : ¬ nI 8 ≤ nI m) => absurd (nI_le (by omega) (by omega)) c1)
      exact fin m a ha (fun _ => hz) (fun q => absurd (zpow0 hb rfl) q)
    | succ f ih =>
      intro m a hf ha hb hz
      rw [zSI_s ha] at hz
      refine zgo hC0 4 3 rfl ?_
      refine And.intro (fun (c1 : nI 8 ≤ nI m) => absurd c1 (nI_ge (by omega) (by decide))) (fun _ => ?_)
      refine zgo hC0 7 5 rfl ?_
      refine zcallS hC0 (mX4_in (lN a &&& lN 255) (lN 33) (lN 126) h) vX4_in lk4_34 (by decide +kernel : decode cX4_charactersOf 23 = .ok (.invokestatic 34, 3)) rfl rfl (Nat.le_of_ble_eq_true rfl) (Nat.le_of_ble_eq_true rfl) (Nat.le_of_ble_eq_true rfl) ?_
      refine zgo hC0 13 1 rfl ?_
      refine And.intro (fun c2 => ?_) (fun c2 => ?_)
      · rw [b2i_f c2] at hz
        refine fin m a ha (fun q => ?_) (fun q => ?_)
        · rw [if_pos q] at hz
          exact hz
        · rw [if_neg q] at hz
          exact hz
      · have c3 := b2i_t c2
        rw [c3] at hz
        have h0 : ¬ a = 0 := by
          rintro rfl
          rw [zin_0] at c3
          cases c3
        rw [if_neg h0] at hz
        refine zgo hC0 14 6 rfl ?_
        show C 5 [some (.long (lN a0)), none, some (.long (zlushr (lN a) (nI (8 * 1)))), none, some (.int (nI m + nI 1))] [] h
        rw [zq_shr ha (by decide), nI_add]
        refine ih (m + 1) (a / 256) (by omega) (Nat.lt_of_le_of_lt (Nat.div_le_self _ _) ha) ?_ hz
        rw [show 8 * (f + 1) = 8 * f + 8 by omega, Nat.pow_add] at hb
        exact Nat.div_lt_of_lt_mul (by rw [Nat.mul_comm]; exact hb)
  refine zgo hC0 0 4 rfl ?_
  refine key 8 0 a0 rfl ha0 ha0 rfl
theorem zch_ex (c : Int64) {i : Nat} (hi : i < 8) : ∃ y, y < 256 ∧ zlushr c (nI 8 * nI i) &&& lN 255 = lN y := by
  obtain ⟨a, ha, rfl⟩ := zq_ex c
  rw [pk_mul, zq_shr ha hi, zq_and (Nat.lt_of_le_of_lt (Nat.div_le_self _ _) ha)]
  exact ⟨_, Nat.mod_lt _ (by decide), rfl⟩
theorem zi2c_s : ∀ y, y < 256 → zi2c (nI y) = nI y := by
  intro y hy
  unfold zi2c
  show (UInt32.ofNat y % 65536).toInt32 = (UInt32.ofNat y).toInt32
  congr 1
  apply UInt32.toNat_inj.mp
  rw [UInt32.toNat_mod, UInt32.toNat_ofNat_of_lt' (show y < UInt32.size by show y < 4294967296; omega)]
  exact Nat.mod_eq_of_lt (show y < 65536 by omega)
theorem zch_z (c : Int64) {i : Nat} (hi : i < 8) : (zlushr c (nI 8 * nI i) &&& lN 255).toInt32 = zch c i := by
  obtain ⟨y, hy, e⟩ := zch_ex c hi
  rw [zch, e, lN_i, zi2c_s y hy]
set_option maxHeartbeats 2000000 in
set_option maxRecDepth 20000 in
theorem mX4_put_a (u : CV) (c : Int64) (hs : zSI 8 0 c = nI 0) : ZM yX4_put cX4_put 5 (some .int) 2 49 [.ref 0, .long c] (hM u) (some (.int (-(nI 2)))) (hM u) := by
  refine zm_of 4 qX4_put rfl rfl kX4_put rfl (Nat.le_of_ble_eq_true rfl) (fun C hC0 => ?_)
  refine zgo hC0 0 1 rfl ?_
  refine zcallS hC0 (mX4_charactersOf c (hM u)) vX4_charactersOf lk4_174 (by decide +kernel : decode cX4_put 1 = .ok (.invokestatic 174, 3)) rfl rfl (Nat.le_of_ble_eq_true rfl) (Nat.le_of_ble_eq_true rfl) (Nat.le_of_ble_eq_true rfl) ?_
  rw [hs]
  refine zgo hC0 2 3 rfl ?_
  refine And.intro (fun q => absurd rfl q) (fun _ => ?_)
  refine zgo hC0 5 2 rfl ?_
  exact zret_i rfl
set_option maxHeartbeats 2000000 in
set_option maxRecDepth 20000 in
theorem mX4_put_b (u : CV) (q m : Nat) (c : Int64) (hm0 : 0 < m) (hm8 : m ≤ 8) (hs : zSI 8 0 c = nI m) (h6 : u 6 0 = nI q) (hq : q ≤ 60) (hb : 60 < q + m) : ZM yX4_put cX4_put 5 (some .int) 2 49 [.ref 0, .long c] (hM u) (some (.int (-(nI 4)))) (hM u) := by
  refine zm_of 4 qX4_put rfl rfl kX4_put rfl (Nat.le_of_ble_eq_true rfl) (fun C hC0 => ?_)
  refine zgo hC0 0 1 rfl ?_
  refine zcallS hC0 (mX4_charactersOf c (hM u)) vX4_charactersOf lk4_174 (by decide +kernel : decode cX4_put 1 = .ok (.invokestatic 174, 3)) rfl rfl (Nat.le_of_ble_eq_true rfl) (Nat.le_of_ble_eq_true rfl) (Nat.le_of_ble_eq_true rfl) ?_
  rw [hs]
  refine zgo hC0 2 3 rfl ?_
  refine And.intro (fun _ => ?_) (fun c1 => absurd c1 (nI_ne0 hm0 (by omega)))
  refine zgo hC0 7 6 rfl ?_
  refine And.intro (fun (c1 : u 6 0 + nI m ≤ nI 60) => absurd c1 (by rw [h6, nI_add]; exact nI_ge hb (by omega))) (fun _ => ?_)
  refine zgo hC0 13 2 rfl ?_
  exact zret_i rfl
set_option maxHeartbeats 2000000 in
set_option maxRecDepth 20000 in
theorem mX4_put_t (u : CV) (q m : Nat) (c : Int64) (hm0 : 0 < m) (hm8 : m ≤ 8) (hs : zSI 8 0 c = nI m) (h6 : u 6 0 = nI q) (hb : q + m ≤ 60) : ZM yX4_put cX4_put 5 (some .int) 2 49 [.ref 0, .long c] (hM u) (some (.int (nI (q + m)))) (hM (vup (vup u 5 (zpp (u 5) q c m m)) 6 (upd (u 6) 0 (nI (q + m))))) := by
  refine zm_of 4 qX4_put rfl rfl kX4_put rfl (Nat.le_of_ble_eq_true rfl) (fun C hC0 => ?_)
  refine zgo hC0 0 1 rfl ?_
  refine zcallS hC0 (mX4_charactersOf c (hM u)) vX4_charactersOf lk4_174 (by decide +kernel : decode cX4_put 1 = .ok (.invokestatic 174, 3)) rfl rfl (Nat.le_of_ble_eq_true rfl) (Nat.le_of_ble_eq_true rfl) (Nat.le_of_ble_eq_true rfl) ?_
  rw [hs]
  refine zgo hC0 2 3 rfl ?_
  refine And.intro (fun _ => ?_) (fun c1 => absurd c1 (nI_ne0 hm0 (by omega)))
  refine zgo hC0 7 6 rfl ?_
  refine And.intro (fun _ => ?_) (fun (c1 : ¬ u 6 0 + nI m ≤ nI 60) => absurd (by rw [h6, nI_add]; exact nI_le hb (by omega)) c1)
  refine zgo hC0 15 2 rfl ?_
  refine zloop m (fun j => ∀ y, y = nI j → C 29 [some (.ref 0), some (.long c), none, some (.int (nI m)), some (.int y)] [] (hM (vup u 5 (zpp (u 5) q c m j)))) ?_ ?_ _ rfl
  · rintro y rfl
    refine zgo hC0 17 3 rfl ?_
    refine And.intro (fun _ => ?_) (fun c1 => absurd (nI_le (Nat.le_refl m) (by omega)) c1)
    refine zgo hC0 41 9 rfl ?_
    refine ⟨rfl, ?_, ?_⟩
    · show some (Value.int _) = some (Value.int (u 6 0 + nI m))
      rw [h6, nI_add]
    · show hM (vup (vup u 5 (zpp (u 5) q c m m)) 6 (upd (u 6) 0 (u 6 0 + nI m))) = _
      rw [h6, nI_add]
  · rintro j hj ih y rfl
    refine zgo hC0 17 3 rfl ?_
    refine And.intro (fun c1 => absurd c1 (nI_ge hj (by omega))) (fun _ => ?_)
    refine zgo hC0 20 21 rfl ?_
    refine And.intro ?_ ?_
    · show vp_in (u 6 0 + nI j) 60
      rw [h6, nI_add]
      exact vp_in_nI (by omega) (by decide)
    show C 29 [some (.ref 0), some (.long c), none, some (.int (nI m)), some (.int (nI j + nI 1))] [] (hM (vup u 5 (upd (zpp (u 5) q c m j) (u 6 0 + nI j).toNatClampNeg (zlushr c (nI 8 * (nI m - nI 1 - nI j)) &&& lN 255).toInt32)))
    rw [h6, nI_add q j, nI_clamp (show q + j < 2 ^ 31 by omega), pk_sub (show 1 ≤ m by omega), pk_sub (show j ≤ m - 1 by omega), zch_z c (show m - 1 - j < 8 by omega)]
    exact ih _ (nI_add j 1)
