/-! RepealedLaws: bestBill, law, topic, councillor, count, fault, wipe -/
/-- the best bill so far, and its votes, behind a bill of the number k = 18 (length - 1) + 3 topic + stance -/
def zBB (v : CV) (n : Nat) : Nat → Int32 × Int32
  | 0 => (-(nI 6), -(nI 6))
  | k + 1 => if zVI v (nI (k / 18 + 1)) (nI (k / 3 % 6)) (nI (k % 3)) n ≤ (zBB v n k).2 then zBB v n k else (nI 100 * nI (k / 18 + 1) + nI 10 * nI (k / 3 % 6) + nI (k % 3), zVI v (nI (k / 18 + 1)) (nI (k / 3 % 6)) (nI (k % 3)) n)
def zBest (v : CV) (n : Nat) : Int32 := match zFull v with
  | true => -(nI 4)
  | false => (zBB v n 162).1
set_option maxHeartbeats 2000000 in
set_option maxRecDepth 20000 in
theorem mX3_bestBill (v : CV) (hv : Nat → CV) (ho hk : Int32) (sv : Nat → CV) (fl ps : Nat → Int32) (pl : Int32) (n : Nat) (hm : WM v n) : ZM yX3_bestBill cX3_bestBill 7 (some .int) 5 125 [.ref 0] (hX v hv ho hk sv fl ps pl) (some (.int (zBest v n))) (hX v hv ho hk sv fl ps pl) := by
  refine zm_of 3 qX3_bestBill rfl rfl kX3_bestBill rfl (Nat.le_of_ble_eq_true rfl) (fun C hC0 => ?_)
  refine zgo hC0 0 2 rfl ?_
  refine zcallVb hC0 (mX0_isFull v) (zX_C v hv ho hk sv fl ps pl v) rfl (Nat.le_of_ble_eq_true rfl) vX0_isFull lk3_193 (by decide +kernel : decode cX3_bestBill 4 = .ok (.invokevirtual 193, 3)) rfl rfl rfl (Nat.le_of_ble_eq_true rfl) (Nat.le_of_ble_eq_true rfl) (Nat.le_of_ble_eq_true rfl) ?_
  refine zgo hC0 3 1 rfl ?_
  refine And.intro (fun c2 => ?_) (fun c2 => ?_)
  rotate_left
  · refine zgo hC0 4 2 rfl ?_
    exact zret_i (by rw [zBest, zFull, b2i_t c2]; rfl)
  have hBs : ∀ k, zBB v n (k + 1) = if zVI v (nI (k / 18 + 1)) (nI (k / 3 % 6)) (nI (k % 3)) n ≤ (zBB v n k).2 then zBB v n k else (nI 100 * nI (k / 18 + 1) + nI 10 * nI (k / 3 % 6) + nI (k % 3), zVI v (nI (k / 18 + 1)) (nI (k / 3 % 6)) (nI (k % 3)) n) := fun _ => rfl
  have hB0 : zBB v n 0 = (-(nI 6), -(nI 6)) := rfl
  have hBe : zBest v n = (zBB v n 162).1 := by rw [zBest, zFull, b2i_f c2]
  generalize zBB v n = B at hBs hB0 hBe
  have l3 : ∀ (i t : Nat), i < 9 → t < 6 → (∀ (a b : Int32) (y z : Option Value), a = (B (18 * i + 3 * t + 3)).1 → b = (B (18 * i + 3 * t + 3)).2 → C 89 [some (.ref 0), some (.int a), some (.int b), some (.int (nI (i + 1))), some (.int (nI t)), y, z] [] (hX v hv ho hk sv fl ps pl)) → ∀ (a b : Int32) (z : Option Value), a = (B (18 * i + 3 * t)).1 → b = (B (18 * i + 3 * t)).2 → C 40 [some (.ref 0), some (.int a), some (.int b), some (.int (nI (i + 1))), some (.int (nI t)), some (.int (nI 0)), z] [] (hX v hv ho hk sv fl ps pl) := by
    intro i t hi ht hend a b z ha hb
    refine zloop 3 (fun s => ∀ (a b y : Int32) (z : Option Value), a = (B (18 * i + 3 * t + s)).1 → b = (B (18 * i + 3 * t + s)).2 → y = nI s → C 40 [some (.ref 0), some (.int a), some (.int b), some (.int (nI (i + 1))), some (.int (nI t)), some (.int y), z] [] (hX v hv ho hk sv fl ps pl)) ?_ ?_ a b _ z ha hb rfl
    · rintro a b y z ha hb rfl
      refine zgo hC0 22 3 rfl ?_
      refine And.intro (fun _ => ?_) (fun c => absurd (nI_le (Nat.le_refl 3) (by decide)) c)
      exact hend a b _ _ ha hb
    · rintro s hs ih a b y z rfl rfl rfl
      have e1 : (18 * i + 3 * t + s) / 18 = i := by omega
      have e2 : (18 * i + 3 * t + s) / 3 % 6 = t := by omega
      have e3 : (18 * i + 3 * t + s) % 3 = s := by omega
      have eq := hBs (18 * i + 3 * t + s)
      rw [e1, e2, e3] at eq
      refine zgo hC0 22 3 rfl ?_
      refine And.intro (fun c => absurd c (nI_ge hs (by decide))) (fun _ => ?_)
      refine zgo hC0 25 5 rfl ?_
      refine zcallVb hC0 (mX0_votesIfPassing v (nI (i + 1)) (nI t) (nI s) n hm) (zX_C v hv ho hk sv fl ps pl v) rfl (Nat.le_of_ble_eq_true rfl) vX0_votesIfPassing lk3_207 (by decide +kernel : decode cX3_bestBill 55 = .ok (.invokevirtual 207, 3)) rfl rfl rfl (Nat.le_of_ble_eq_true rfl) (Nat.le_of_ble_eq_true rfl) (Nat.le_of_ble_eq_true rfl) ?_
      refine zgo hC0 31 4 rfl ?_
      refine And.intro (fun c => ?_) (fun c => ?_)
      · rw [if_pos c] at eq
        refine zgo hC0 47 2 rfl ?_
        exact ih _ _ _ _ (by rw [← Nat.add_assoc, eq]) (by rw [← Nat.add_assoc, eq]) (nI_add s 1)
      · rw [if_neg c] at eq
        refine zgo hC0 35 14 rfl ?_
        exact ih _ _ _ _ (by rw [← Nat.add_assoc, eq]; rfl) (by rw [← Nat.add_assoc, eq]) (nI_add s 1)
  have l2 : ∀ i : Nat, i < 9 → (∀ (a b : Int32) (x y z : Option Value), a = (B (18 * i + 18)).1 → b = (B (18 * i + 18)).2 → C 95 [some (.ref 0), some (.int a), some (.int b), some (.int (nI (i + 1))), x, y, z] [] (hX v hv ho hk sv fl ps pl)) → ∀ (a b : Int32) (y z : Option Value), a = (B (18 * i)).1 → b = (B (18 * i)).2 → C 30 [some (.ref 0), some (.int a), some (.int b), some (.int (nI (i + 1))), some (.int (nI 0)), y, z] [] (hX v hv ho hk sv fl ps pl) := by
    intro i hi hend a b y z ha hb
    refine zloop 6 (fun t => ∀ (a b x : Int32) (y z : Option Value), a = (B (18 * i + 3 * t)).1 → b = (B (18 * i + 3 * t)).2 → x = nI t → C 30 [some (.ref 0), some (.int a), some (.int b), some (.int (nI (i + 1))), some (.int x), y, z] [] (hX v hv ho hk sv fl ps pl)) ?_ ?_ a b _ y z ha hb rfl
    · rintro a b x y z ha hb rfl
      refine zgo hC0 17 3 rfl ?_
      refine And.intro (fun _ => ?_) (fun c => absurd (nI_le (Nat.le_refl 6) (by decide)) c)
      exact hend a b _ _ _ ha hb
    · rintro t ht ih a b x y z rfl rfl rfl
      refine zgo hC0 17 3 rfl ?_
      refine And.intro (fun c => absurd c (nI_ge ht (by decide))) (fun _ => ?_)
      refine zgo hC0 20 2 rfl ?_
      refine l3 i t hi ht ?_ _ _ _ rfl rfl
      rintro a b y z rfl rfl
      refine zgo hC0 49 2 rfl ?_
      exact ih _ _ _ _ _ rfl rfl (nI_add t 1)
  refine zgo hC0 6 6 rfl ?_
  refine zloop 9 (fun i => ∀ (a b w : Int32) (x y z : Option Value), a = (B (18 * i)).1 → b = (B (18 * i)).2 → w = nI (i + 1) → C 21 [some (.ref 0), some (.int a), some (.int b), some (.int w), x, y, z] [] (hX v hv ho hk sv fl ps pl)) ?_ ?_ _ _ _ _ _ _ (by rw [Nat.mul_zero, hB0]; rfl) (by rw [Nat.mul_zero, hB0]; rfl) rfl
  · rintro a b w x y z rfl rfl rfl
    refine zgo hC0 12 3 rfl ?_
    refine And.intro (fun _ => ?_) (fun c => absurd (nI_lt (by decide) (by decide)) c)
    refine zgo hC0 53 2 rfl ?_
    exact zret_i hBe
  · rintro i hi ih a b w x y z rfl rfl rfl
    refine zgo hC0 12 3 rfl ?_
    refine And.intro (fun (c : nI 9 < nI (i + 1)) => absurd c (nI_nlt (by omega) (by decide))) (fun _ => ?_)
    refine zgo hC0 15 2 rfl ?_
    refine l2 i hi ?_ _ _ _ _ rfl rfl
    rintro a b x y z rfl rfl
    refine zgo hC0 51 2 rfl ?_
    exact ih _ _ _ _ _ _ rfl rfl (nI_add (i + 1) 1)
