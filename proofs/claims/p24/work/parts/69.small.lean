/-! the law's small methods -/
def upn (v : Int32) (m : Nat) : Nat := (v.toBitVec.toNat % 2 ^ 31) % m
theorem upn_lt (v : Int32) {m : Nat} (h : 0 < m) : upn v m < m := Nat.mod_lt _ h
set_option maxHeartbeats 2000000 in
set_option maxRecDepth 20000 in
theorem mL_up (v : Int32) (m : Nat) (h0 : 0 < m) (hm : m < 2 ^ 31) (h : List ZC) : ZM yL_up cL_up 2 (some .int) 0 0 [.int v, .int (nI m)] h (some (.int (nI (upn v m)))) h := by
  refine zm_of 5 qL_up rfl rfl kL_up rfl (Nat.le_of_ble_eq_true rfl) (fun C hC0 => ?_)
  have e1 : v &&& nI 2147483647 = nI (v.toBitVec.toNat % 2 ^ 31) := pk_and v 31 (by decide)
  refine zgo hC0 0 5 rfl ?_
  refine And.intro (nI_ne0 h0 hm) ?_
  refine zgo hC0 5 1 rfl ?_
  refine zret_i ?_
  rw [e1, pk_rem (Nat.mod_lt _ (by decide)) h0 hm]
  rfl
set_option maxHeartbeats 2000000 in
set_option maxRecDepth 20000 in
theorem mL_next (x : Int32) (h : List ZC) : ZM yL_next cL_next 1 (some .int) 0 0 [.int x] h (some (.int (nx x))) h := by
  refine zm_of 5 qL_next rfl rfl kL_next rfl (Nat.le_of_ble_eq_true rfl) (fun C hC0 => ?_)
  have out : nx x = x → C 9 [some (.int x)] [] h := by
    intro e
    refine zgo hC0 5 2 rfl ?_
    refine zgo hC0 12 1 rfl ?_
    exact zret_i e
  refine zgo hC0 0 2 rfl ?_
  refine And.intro (fun (c : x < 0) => out (nx_o (fun q => ?_) (fun q => ?_) (fun q => ?_))) (fun (c : ¬ x < 0) => ?_)
  · rw [q] at c; exact absurd c (by decide)
  · rw [q] at c; exact absurd c (by decide)
  · rw [q] at c; exact absurd c (by decide)
  refine zgo hC0 2 3 rfl ?_
  refine And.intro (fun (c2 : x ≤ nI 2) => ?_) (fun (c2 : ¬ x ≤ nI 2) => out (nx_o (fun q => ?_) (fun q => ?_) (fun q => ?_)))
  · obtain ⟨j, hj, rfl⟩ := nI_of2 (n := 2) (M := nI 2) (by decide) c c2
    refine zgo hC0 7 5 rfl ?_
    refine And.intro (by decide) ?_
    refine zgo hC0 12 1 rfl ?_
    refine zret_i ?_
    rw [nx_at (by omega)]
    show nI ((j + 1) % 3) = nI j + nI 1 - (nI j + nI 1) / nI 3 * nI 3
    rw [nI_add, pk_rem (by omega) (by decide) (by decide)]
  · rw [q] at c2; exact absurd (by decide) c2
  · rw [q] at c2; exact absurd (by decide) c2
  · rw [q] at c2; exact absurd (by decide) c2
/-- the bits of a set, k of them -/
def zbs (x : Int32) : Nat → Int32
  | 0 => nI 0
  | c + 1 => zbs x c + ((x >>> (nI c &&& 31)) &&& nI 1)
set_option maxHeartbeats 2000000 in
set_option maxRecDepth 20000 in
theorem mL_bits (x : Int32) (h : List ZC) : ZM yL_bits cL_bits 3 (some .int) 0 0 [.int x] h (some (.int (zbs x 5))) h := by
  refine zm_of 5 qL_bits rfl rfl kL_bits rfl (Nat.le_of_ble_eq_true rfl) (fun C hC0 => ?_)
  refine zgo hC0 0 4 rfl ?_
  refine zloop 5 (fun i => ∀ a y : Int32, a = zbs x i → y = nI i → C 4 [some (.int x), some (.int a), some (.int y)] [] h) ?_ ?_ _ _ rfl rfl
  · rintro a y rfl rfl
    refine zgo hC0 4 3 rfl ?_
    refine And.intro (fun _ => ?_) (fun c => absurd (nI_le (Nat.le_refl 5) (by decide)) c)
    refine zgo hC0 17 2 rfl ?_
    exact zret_i rfl
  · rintro i hi ih a y rfl rfl
    refine zgo hC0 4 3 rfl ?_
    refine And.intro (fun c => absurd c (nI_ge hi (by decide))) (fun _ => ?_)
    refine zgo hC0 7 10 rfl ?_
    exact ih _ _ rfl (nI_add i 1)
def zb6 (x : Int32) : Int32 := zbs x 5 + ((x >>> (nI 5 &&& 31)) &&& nI 1)
set_option maxHeartbeats 2000000 in
set_option maxRecDepth 20000 in
theorem mL_bits6 (x : Int32) (h : List ZC) : ZM yL_bits6 cL_bits6 1 (some .int) 1 22 [.int x] h (some (.int (zb6 x))) h := by
  refine zm_of 5 qL_bits6 rfl rfl kL_bits6 rfl (Nat.le_of_ble_eq_true rfl) (fun C hC0 => ?_)
  refine zgo hC0 0 1 rfl ?_
  refine zcallS hC0 (mL_bits x h) vL_bits lk5_103 (by decide +kernel : decode cL_bits6 1 = .ok (.invokestatic 103, 3)) rfl rfl (Nat.le_of_ble_eq_true rfl) (Nat.le_of_ble_eq_true rfl) (Nat.le_of_ble_eq_true rfl) ?_
  refine zgo hC0 2 7 rfl ?_
  exact zret_i rfl
theorem zbs_or (p : Nat → Bool) : zbs (zor p 5) 5 = nI (cnt p 5) := by
  have key : ∀ a b c d e : Bool, ∀ q : Nat → Bool, q 0 = a → q 1 = b → q 2 = c → q 3 = d → q 4 = e → zbs (zor q 5) 5 = nI (cnt q 5) := by
    intro a b c d e q h0 h1 h2 h3 h4
    simp only [zor, cnt, h0, h1, h2, h3, h4]
    clear h0 h1 h2 h3 h4
    cases a <;> cases b <;> cases c <;> cases d <;> cases e <;> decide +kernel
  exact key _ _ _ _ _ p rfl rfl rfl rfl rfl
theorem zb6_or (p : Nat → Bool) : zb6 (zor p 6) = nI (cnt p 6) := by
  have key : ∀ a b c d e f : Bool, ∀ q : Nat → Bool, q 0 = a → q 1 = b → q 2 = c → q 3 = d → q 4 = e → q 5 = f → zb6 (zor q 6) = nI (cnt q 6) := by
    intro a b c d e f q h0 h1 h2 h3 h4 h5
    simp only [zor, cnt, h0, h1, h2, h3, h4, h5]
    clear h0 h1 h2 h3 h4 h5
    cases a <;> cases b <;> cases c <;> cases d <;> cases e <;> cases f <;> decide +kernel
  exact key _ _ _ _ _ _ p rfl rfl rfl rfl rfl rfl
/-- a bill on the pad -/
def ZX.pb (x : ZX) (l t s : Nat) (e : Bool) : ZX := match e with
  | true => (((x.pp (nI (48 + l))).pp (nI (48 + t))).pp (zcs s)).pp (nI 33)
  | false => ((x.pp (nI (48 + l))).pp (nI (48 + t))).pp (zcs s)
set_option maxHeartbeats 2000000 in
set_option maxRecDepth 20000 in
theorem mL_put (x : ZX) (l t s : Nat) (e : Bool) (hl : l < 10) (ht : t < 6) (hs : s < 3) (hq : x.q + 4 ≤ 60) : ZM yL_put cL_put 5 (some .boolean) 2 50 [.ref 0, .int (nI l), .int (nI t), .int (nI s), .int (b2i e)] x.h (some (.int (b2i true))) (x.pb l t s e).h := by
  refine zm_of 5 qL_put rfl rfl kL_put rfl (Nat.le_of_ble_eq_true rfl) (fun C hC0 => ?_)
  have h48 : ∀ k, k < 10 → (nI 48 + nI k).toInt64 = lN (48 + k) := fun k hk => by rw [nI_add, nI_l (by omega)]
  refine zgo hC0 0 5 rfl ?_
  show C 6 [some (.ref 0), some (.int (nI l)), some (.int (nI t)), some (.int (nI s)), some (.int (b2i e))] [.long (nI 48 + nI l).toInt64, .ref 0] x.h
  rw [h48 l hl]
  refine zcallV hC0 (o_put x (k := 48 + l) (by omega) (by omega) (by omega)) vX3_put lk5_9 (by decide +kernel : decode cL_put 6 = .ok (.invokevirtual 9, 3)) rfl rfl rfl (Nat.le_of_ble_eq_true rfl) (Nat.le_of_ble_eq_true rfl) (Nat.le_of_ble_eq_true rfl) ?_
  refine zgo hC0 6 1 rfl ?_
  refine And.intro (fun c => absurd c (nI_nle (by omega) (by omega))) (fun _ => ?_)
  refine zgo hC0 7 5 rfl ?_
  show C 18 [some (.ref 0), some (.int (nI l)), some (.int (nI t)), some (.int (nI s)), some (.int (b2i e))] [.long (nI 48 + nI t).toInt64, .ref 0] (x.pp (nI (48 + l))).h
  rw [h48 t (by omega)]
  refine zcallV hC0 (o_put (x.pp (nI (48 + l))) (k := 48 + t) (by omega) (by omega) (show x.q + 1 + 1 ≤ 60 by omega)) vX3_put lk5_9 (by decide +kernel : decode cL_put 18 = .ok (.invokevirtual 9, 3)) rfl rfl rfl (Nat.le_of_ble_eq_true rfl) (Nat.le_of_ble_eq_true rfl) (Nat.le_of_ble_eq_true rfl) ?_
  refine zgo hC0 13 1 rfl ?_
  refine And.intro (fun c => absurd c (nI_nle (show 0 < x.q + 1 + 1 by omega) (show x.q + 1 + 1 < 2 ^ 31 by omega))) (fun _ => ?_)
  have rest : ∀ k : Nat, k < 127 → 33 ≤ k → nI k = zcs s → C 49 [some (.ref 0), some (.int (nI l)), some (.int (nI t)), some (.int (nI s)), some (.int (b2i e))] [.long (lN k), .ref 0] ((x.pp (nI (48 + l))).pp (nI (48 + t))).h := by
    intro k h1 h2 h3
    refine zcallV hC0 (o_put ((x.pp (nI (48 + l))).pp (nI (48 + t))) (k := k) h1 h2 (show x.q + 1 + 1 + 1 ≤ 60 by omega)) vX3_put lk5_9 (by decide +kernel : decode cL_put 49 = .ok (.invokevirtual 9, 3)) rfl rfl rfl (Nat.le_of_ble_eq_true rfl) (Nat.le_of_ble_eq_true rfl) (Nat.le_of_ble_eq_true rfl) ?_
    rw [h3]
    refine zgo hC0 26 1 rfl ?_
    refine And.intro (fun c => absurd c (nI_nle (show 0 < x.q + 1 + 1 + 1 by omega) (show x.q + 1 + 1 + 1 < 2 ^ 31 by omega))) (fun _ => ?_)
    refine zgo hC0 27 2 rfl ?_
    cases e with
    | false =>
      refine And.intro (fun _ => ?_) (fun c => absurd rfl c)
      refine zgo hC0 33 2 rfl ?_
      refine zgo hC0 36 1 rfl ?_
      exact zret_b rfl
    | true =>
      refine And.intro (fun c => absurd c (by decide)) (fun _ => ?_)
      refine zgo hC0 29 2 rfl ?_
      refine zcallV hC0 (o_put (((x.pp (nI (48 + l))).pp (nI (48 + t))).pp (zcs s)) (k := 33) (by omega) (by omega) (show x.q + 1 + 1 + 1 + 1 ≤ 60 by omega)) vX3_put lk5_9 (by decide +kernel : decode cL_put 64 = .ok (.invokevirtual 9, 3)) rfl rfl rfl (Nat.le_of_ble_eq_true rfl) (Nat.le_of_ble_eq_true rfl) (Nat.le_of_ble_eq_true rfl) ?_
      refine zgo hC0 32 1 rfl ?_
      refine And.intro (fun c => absurd c (nI_nle (show 0 < x.q + 1 + 1 + 1 + 1 by omega) (show x.q + 1 + 1 + 1 + 1 < 2 ^ 31 by omega))) (fun _ => ?_)
      refine zgo hC0 33 2 rfl ?_
      refine zgo hC0 36 1 rfl ?_
      exact zret_b rfl
  refine zgo hC0 14 3 rfl ?_
  rcases (show s = 0 ∨ s = 1 ∨ s = 2 by omega) with rfl | rfl | rfl
  · refine And.intro (fun c => absurd rfl c) (fun _ => ?_)
    refine zgo hC0 17 2 rfl ?_
    exact rest 102 (by decide) (by decide) rfl
  · refine And.intro (fun _ => ?_) (fun c => absurd c (by decide))
    refine zgo hC0 19 3 rfl ?_
    refine And.intro (fun c => absurd rfl c) (fun _ => ?_)
    refine zgo hC0 22 2 rfl ?_
    exact rest 97 (by decide) (by decide) rfl
  · refine And.intro (fun _ => ?_) (fun c => absurd c (by decide))
    refine zgo hC0 19 3 rfl ?_
    refine And.intro (fun _ => ?_) (fun c => absurd c (by decide))
    refine zgo hC0 24 1 rfl ?_
    exact rest 100 (by decide) (by decide) rfl
