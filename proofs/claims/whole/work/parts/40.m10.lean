/-! RepealedLawsModel: charactersOf, put -/
theorem zq_ofU (a : Nat) : (lN a).toUInt64 = UInt64.ofNat a := rfl
theorem zq_shr {a : Nat} (ha : a < 2 ^ 64) {k : Nat} (hk : k < 8) : zlushr (lN a) (nI (8 * k)) = lN (a / 2 ^ (8 * k)) := by
  have e1 : (nI (8 * k)).toInt64.toUInt64 &&& Int64.toUInt64 63 = UInt64.ofNat (8 * k) := by
    rcases (show k = 0 ∨ k = 1 ∨ k = 2 ∨ k = 3 ∨ k = 4 ∨ k = 5 ∨ k = 6 ∨ k = 7 by omega) with rfl | rfl | rfl | rfl | rfl | rfl | rfl | rfl <;> decide +kernel
  unfold zlushr
  rw [e1, zq_ofU]
  show (UInt64.ofNat a >>> UInt64.ofNat (8 * k)).toInt64 = (UInt64.ofNat (a / 2 ^ (8 * k))).toInt64
  congr 1
  apply UInt64.toNat_inj.mp
  have h1 : a / 2 ^ (8 * k) ≤ a := Nat.div_le_self _ _
  rw [UInt64.toNat_shiftRight, UInt64.toNat_ofNat_of_lt' (show a < UInt64.size from ha), UInt64.toNat_ofNat_of_lt' (show 8 * k < UInt64.size by show 8 * k < 18446744073709551616; omega), UInt64.toNat_ofNat_of_lt' (show a / 2 ^ (8 * k) < UInt64.size from Nat.lt_of_le_of_lt h1 ha), Nat.mod_eq_of_lt (by omega), Nat.shiftRight_eq_div_pow]
theorem zq_and {a : Nat} (ha : a < 2 ^ 64) : lN a &&& lN 255 = lN (a % 256) := by
  apply Int64.toBitVec_inj.mp
  apply BitVec.eq_of_toNat_eq
  rw [Int64.toBitVec_and, BitVec.toNat_and]
  show (a % 2 ^ 64) &&& (255 % 2 ^ 64) = (a % 256) % 2 ^ 64
  rw [Nat.mod_eq_of_lt ha, show (255 % 2 ^ 64) = 2 ^ 8 - 1 by decide, Nat.and_two_pow_sub_one_eq_mod, Nat.mod_eq_of_lt (show a % 256 < 2 ^ 64 by omega)]
theorem zq_ex (r : Int64) : ∃ a, a < 2 ^ 64 ∧ r = lN a := ⟨r.toUInt64.toNat, r.toUInt64.toNat_lt, by
  apply Int64.toBitVec_inj.mp
  apply BitVec.eq_of_toNat_eq
  show r.toBitVec.toNat = r.toUInt64.toNat % 2 ^ 64
  rw [Nat.mod_eq_of_lt r.toUInt64.toNat_lt]
  rfl⟩
theorem zq_cmp0 (x y : Int64) : lg_cmp x y = 0 ↔ x = y := by
  constructor
  · intro h
    have h1 : ¬ lg_cmp x y < 0 := by rw [h]; decide
    have h2 : ¬ 0 < lg_cmp x y := by rw [h]; decide
    rw [zcmp_lt] at h1
    rw [zcmp_gt] at h2
    rw [← Int64.toInt_inj]
    omega
  · rintro rfl
    have h1 : ¬ lg_cmp x x < 0 := by rw [zcmp_lt]; omega
    have h2 : ¬ 0 < lg_cmp x x := by rw [zcmp_gt]; omega
    have h3 := Int32.not_lt.mp h1
    have h4 := Int32.not_lt.mp h2
    exact Int32.le_antisymm h4 h3
theorem zq_00 {a : Nat} (ha : a < 2 ^ 64) : lg_cmp (lN a) (lN 0) = 0 ↔ a = 0 := by
  rw [zq_cmp0]
  constructor
  · intro h
    have h1 : (lN a).toUInt64.toNat = (lN 0).toUInt64.toNat := by rw [h]
    rw [zq_ofU, zq_ofU, UInt64.toNat_ofNat_of_lt' (show a < UInt64.size from ha), UInt64.toNat_ofNat_of_lt' (by decide)] at h1
    exact h1
  · rintro rfl
    rfl
theorem zSI_s {f m a : Nat} (ha : a < 2 ^ 64) : zSI (f + 1) m (lN a) = if a = 0 then nI m else match zin64 (lN a &&& lN 255) (lN 33) (lN 126) with
    | true => zSI f (m + 1) (lN (a / 256))
    | false => nI 0 := by
  rw [zSI]
  by_cases h0 : a = 0
  · rw [if_pos ((zq_00 ha).mpr h0), if_pos h0]
  · rw [if_neg (fun q => h0 ((zq_00 ha).mp q)), if_neg h0]
    by_cases h1 : lg_cmp (lN a &&& lN 255) (lN 33) < 0
    · rw [if_pos h1, zin64, decide_eq_false (fun q => q h1)]
      rfl
    · rw [if_neg h1, zin64, decide_eq_true h1]
      by_cases h2 : lg_cmp (lN a &&& lN 255) (lN 126) ≤ 0
      · rw [if_pos h2, decide_eq_true (Int32.not_lt.mpr h2)]
        show zSI f (m + 1) (zlushr (lN a) (nI (8 * 1))) = _
        rw [zq_shr ha (by decide)]
        rfl
      · rw [if_neg h2, decide_eq_false (fun q => h2 (Int32.not_lt.mp q))]
        rfl
theorem zin_0 : zin64 (lN 0 &&& lN 255) (lN 33) (lN 126) = false := by
  rw [zq_and (by decide)]
  refine zand_f1 (decide_eq_false (fun q => q ((zcmp_lt _ _).mpr ?_)))
  rw [lN_toInt (by decide), lN_toInt (by decide)]
  decide
theorem zpow0 {a f : Nat} (h : a < 2 ^ (8 * f)) (hf : f = 0) : a = 0 := by
  subst hf
  exact Nat.lt_one_iff.mp h
set_option maxHeartbeats 2000000 in
set_option maxRecDepth 20000 in
theorem mX4_charactersOf (c : Int64) (h : List ZC) : ZM yX4_charactersOf cX4_charactersOf 5 (some .int) 1 25 [.long c] h (some (.int (zSI 8 0 c))) h := by
  refine zm_of 4 qX4_charactersOf rfl rfl kX4_charactersOf rfl (Nat.le_of_ble_eq_true rfl) (fun C hC0 => ?_)
  obtain ⟨a0, ha0, rfl⟩ := zq_ex c
  have fin : ∀ m a : Nat, a < 2 ^ 64 → (a = 0 → nI m = zSI 8 0 (lN a0)) → (¬ a = 0 → nI 0 = zSI 8 0 (lN a0)) → C 40 [some (.long (lN a0)), none, some (.long (lN a)), none, some (.int (nI m))] [] h := by
    intro m a ha k1 k2
    refine zgo hC0 20 4 rfl ?_
    refine And.intro (fun (c1 : ¬ lg_cmp (lN a) (lN 0) = 0) => ?_) (fun (c1 : lg_cmp (lN a) (lN 0) = 0) => ?_)
    · refine zgo hC0 26 2 rfl ?_
      exact zret_i (k2 (fun q => c1 ((zq_00 ha).mpr q))).symm
    · refine zgo hC0 24 2 rfl ?_
      refine zgo hC0 27 1 rfl ?_
      exact zret_i (k1 ((zq_00 ha).mp c1)).symm
  have key : ∀ (f m a : Nat), f + m = 8 → a < 2 ^ 64 → a < 2 ^ (8 * f) → zSI f m (lN a) = zSI 8 0 (lN a0) → C 5 [some (.long (lN a0)), none, some (.long (lN a)), none, some (.int (nI m))] [] h := by
    intro f
    induction f with
    | zero =>
      intro m a hf ha hb hz
      refine zgo hC0 4 3 rfl ?_
      refine And.intro (fun _ => ?_) (fun (c1 : ¬ nI 8 ≤ nI m) => absurd (nI_le (by omega) (by omega)) c1)
      exact fin m a ha (fun _ => hz) (fun q => absurd (zpow0 hb rfl) q)
    | succ f ih =>
      intro m a hf ha hb hz
      rw [zSI_s ha] at hz
      refine zgo hC0 4 3 rfl ?_
      refine And.intro (fun (c1 : nI 8 ≤ nI m) => absurd c1 (nI_ge (by omega) (by decide))) (fun _ => ?_)
      refine zgo hC0 7 5 rfl ?_
      refine zcallS hC0 (mX4_in (lN a &&& lN 255) (lN 33) (lN 126) h) vX4_in lk4_34 (by decide +kernel : decode cX4_charactersOf 23 = .ok (.invokestatic 34, 3)) rfl rfl (Nat.le_of_ble_eq_true rfl) (Nat.le_of_ble_eq_true rfl) (Nat.le_of_ble_eq_true rfl) ?_
      refine zgo hC0 13 1 rfl ?_
      refine And.intro (fun c2 => ?_) (fun c2 => ?_)
      · rw [b2i_f c2] at hz
        refine fin m a ha (fun q => ?_) (fun q => ?_)
        · rw [if_pos q] at hz
          exact hz
        · rw [if_neg q] at hz
          exact hz
      · have c3 := b2i_t c2
        rw [c3] at hz
        have h0 : ¬ a = 0 := by
          rintro rfl
          rw [zin_0] at c3
          cases c3
        rw [if_neg h0] at hz
        refine zgo hC0 14 6 rfl ?_
        show C 5 [some (.long (lN a0)), none, some (.long (zlushr (lN a) (nI (8 * 1)))), none, some (.int (nI m + nI 1))] [] h
        rw [zq_shr ha (by decide), nI_add]
        refine ih (m + 1) (a / 256) (by omega) (Nat.lt_of_le_of_lt (Nat.div_le_self _ _) ha) ?_ hz
        rw [show 8 * (f + 1) = 8 * f + 8 by omega, Nat.pow_add] at hb
        exact Nat.div_lt_of_lt_mul (by rw [Nat.mul_comm]; exact hb)
  refine zgo hC0 0 4 rfl ?_
  refine key 8 0 a0 rfl ha0 ha0 rfl
