/-! the mirror of a code: the topic t as 5 - t, each stance the next one -/
def nx (s : Int32) : Int32 := if s = nI 0 then nI 1 else if s = nI 1 then nI 2 else if s = nI 2 then nI 0 else s
def pv (s : Int32) : Int32 := if s = nI 1 then nI 0 else if s = nI 2 then nI 1 else if s = nI 0 then nI 2 else s
theorem nx_o {s : Int32} (h0 : ¬ s = nI 0) (h1 : ¬ s = nI 1) (h2 : ¬ s = nI 2) : nx s = s := by rw [nx, if_neg h0, if_neg h1, if_neg h2]
theorem pv_nx (s : Int32) : pv (nx s) = s := by
  by_cases h0 : s = nI 0
  · subst h0; decide
  · by_cases h1 : s = nI 1
    · subst h1; decide
    · by_cases h2 : s = nI 2
      · subst h2; decide
      · rw [nx_o h0 h1 h2, pv, if_neg h1, if_neg h2, if_neg h0]
theorem nx_inj {a b : Int32} : nx a = nx b ↔ a = b := ⟨fun h => by rw [← pv_nx a, h, pv_nx], fun h => by rw [h]⟩
theorem nx_at {c : Nat} (h : c < 3) : nx (nI c) = nI ((c + 1) % 3) := by
  rcases (show c = 0 ∨ c = 1 ∨ c = 2 by omega) with rfl | rfl | rfl <;> decide
theorem nx_3 : nx (nI 3) = nI 3 := by decide
theorem nx_m6 : nx (-(nI 6)) = -(nI 6) := by decide
theorem nx_is3 (a : Int32) : nx a = nI 3 ↔ a = nI 3 := ⟨fun q => nx_inj.mp (q.trans nx_3.symm), fun q => by rw [q, nx_3]⟩
theorem mt5 {b : Nat} (hb : b < 6) : nI 5 - nI b = nI (5 - b) := pk_sub (by omega)
theorem zsm_congr {f g : Nat → Int32} : ∀ {n : Nat}, (∀ i, i < n → f i = g i) → zsm f n = zsm g n
  | 0, _ => rfl
  | n + 1, h => by
    rw [zsm, zsm, zsm_congr (fun i hi => h i (by omega)), h n (by omega)]
theorem zany_congr {p q : Nat → Bool} : ∀ {n : Nat}, (∀ i, i < n → p i = q i) → zany p n = zany q n
  | 0, _ => rfl
  | n + 1, h => by
    rw [zany, zany, zany_congr (fun i hi => h i (by omega)), h n (by omega)]
theorem zor_congr {p q : Nat → Bool} : ∀ {n : Nat}, (∀ i, i < n → p i = q i) → zor p n = zor q n
  | 0, _ => rfl
  | n + 1, h => by
    rw [zor, zor, zor_congr (fun i hi => h i (by omega)), h n (by omega)]
theorem cnt_rev6 (p q : Nat → Bool) (h : ∀ t, t < 6 → p (5 - t) = q t) : cnt p 6 = cnt q 6 := by
  have h0 : p 5 = q 0 := h 0 (by omega)
  have h1 : p 4 = q 1 := h 1 (by omega)
  have h2 : p 3 = q 2 := h 2 (by omega)
  have h3 : p 2 = q 3 := h 3 (by omega)
  have h4 : p 1 = q 4 := h 4 (by omega)
  have h5 : p 0 = q 5 := h 5 (by omega)
  show 0 + bN (p 0) + bN (p 1) + bN (p 2) + bN (p 3) + bN (p 4) + bN (p 5) = 0 + bN (q 0) + bN (q 1) + bN (q 2) + bN (q 3) + bN (q 4) + bN (q 5)
  rw [h0, h1, h2, h3, h4, h5]
  omega
/-- w is the mirror of v, n laws made -/
def MR (n : Nat) (v w : CV) : Prop := (∀ i, i < 3 → w 0 i = v 0 i) ∧ (∀ c b, c < 5 → b < 6 → w 1 (6 * c + (5 - b)) = nx (v 1 (6 * c + b))) ∧ (∀ j, j < n → w 2 j = v 2 j ∧ w 3 j = nI 5 - v 3 j ∧ w 4 j = nx (v 4 j) ∧ w 5 j = v 5 j ∧ w 6 j = v 6 j ∧ w 7 j = v 7 j ∧ w 8 j = v 8 j) ∧ w 9 0 = v 9 0 ∧ w 10 0 = v 10 0 ∧ w 11 0 = v 11 0
section MIR
variable {n : Nat} {v w : CV}
theorem mr_WM (h : MR n v w) (hm : WM v n) : WM w n := ⟨h.2.2.2.1.trans hm.1, hm.2⟩
theorem mr_iF (h : MR n v w) {j : Nat} (hj : j < n) : iF w j = iF v j := by
  obtain ⟨e2, e3, e4, e5, e6, e7, e8⟩ := h.2.2.1 j hj
  rw [iF, iF, e6]
theorem mr_zL (h : MR n v w) (x : Int32) : zL w x = zL v x := by rw [zL, zL, h.2.2.2.1]
theorem mr_zF (h : MR n v w) (hm : WM v n) (x : Int32) : zF w x = zF v x := by
  rw [zF, zF, mr_zL h]
  cases e : zL v x with
  | false => rfl
  | true =>
    obtain ⟨j, hj, rfl⟩ := zL_nI hm e
    rw [zcl hm.2 hj, mr_iF h hj]
theorem mr_top (h : MR n v w) (hl : WL v n) {j b : Nat} (hj : j < n) (hb : b < 6) : w 3 j = nI (5 - b) ↔ v 3 j = nI b := by
  obtain ⟨-, ⟨a, ha, ea⟩, -⟩ := hl j hj
  rw [(h.2.2.1 j hj).2.1, ea, mt5 ha, nI_eq (by omega) (by omega), nI_eq (by omega) (by omega)]
  omega
theorem mr_sta (h : MR n v w) {j : Nat} (hj : j < n) (s : Int32) : w 4 j = nx s ↔ v 4 j = s := by rw [(h.2.2.1 j hj).2.2.1, nx_inj]
theorem mr_Wo (h : MR n v w) {c b : Nat} (hc : c < 5) (hb : b < 6) : zWo w (nI c) (nI (5 - b)) = nx (zWo v (nI c) (nI b)) := by
  rw [zWo_at w hc (by omega), zWo_at v hc hb, h.2.1 c b hc hb]
theorem mr_WL (h : MR n v w) (hl : WL v n) : WL w n := by
  intro j hj
  obtain ⟨⟨a, a1, a2, ea⟩, ⟨b, hb, eb⟩, ⟨c, hc, ec⟩, h8⟩ := hl j hj
  obtain ⟨e2, e3, e4, e5, e6, e7, e8⟩ := h.2.2.1 j hj
  exact ⟨⟨a, a1, a2, e2.trans ea⟩, ⟨5 - b, by omega, by rw [e3, eb, mt5 hb]⟩, ⟨(c + 1) % 3, by omega, by rw [e4, ec, nx_at hc]⟩, fun q => by rw [e8]; exact h8 (by rw [← mr_iF h hj]; exact q)⟩
theorem mr_iT (h : MR n v w) (hl : WL v n) {j b : Nat} (hj : j < n) (hb : b < 6) : iT w (nI (5 - b)) j = iT v (nI b) j := by
  rw [iT, iT, mr_iF h hj, decide_eq_decide.mpr (mr_top h hl hj hb)]
theorem mr_iTS (h : MR n v w) (hl : WL v n) {j b : Nat} (hj : j < n) (hb : b < 6) (s : Int32) : iTS w (nI (5 - b)) (nx s) j = iTS v (nI b) s j := by
  rw [iTS, iTS, mr_iT h hl hj hb, decide_eq_decide.mpr (mr_sta h hj s)]
theorem mr_iLK (h : MR n v w) (hl : WL v n) {j b : Nat} (hj : j < n) (hb : b < 6) (l s : Int32) : iLK w l (nI (5 - b)) (nx s) j = iLK v l (nI b) s j := by
  rw [iLK, iLK, (h.2.2.1 j hj).1, decide_eq_decide.mpr (mr_top h hl hj hb), decide_eq_decide.mpr (mr_sta h hj s)]
theorem mr_zho (h : MR n v w) (hl : WL v n) {b : Nat} (hb : b < 6) : ∀ k, k ≤ n → zho w (nI (5 - b)) k = zho v (nI b) k
  | 0, _ => rfl
  | k + 1, hk => by
    rw [zho, zho, mr_zho h hl hb k (by omega), mr_iT h hl (show k < n by omega) hb, (h.2.2.1 k (by omega)).1]
theorem mr_zH (h : MR n v w) (hl : WL v n) {b : Nat} (hb : b < 6) : zH w (nI (5 - b)) n = zH v (nI b) n := by rw [zH, zH, mr_zho h hl hb n (Nat.le_refl n)]
theorem mr_zST (h : MR n v w) (hm : WM v n) (hl : WL v n) {b : Nat} (hb : b < 6) : zST w (nI (5 - b)) n = nx (zST v (nI b) n) := by
  rw [zST, zST, mr_zH h hl hb, mr_zL h]
  cases e : zL v (zH v (nI b) n) with
  | false => exact nx_m6.symm
  | true =>
    obtain ⟨j, hj, ej⟩ := zL_nI hm e
    rw [ej, zcl hm.2 hj]
    exact (h.2.2.1 j hj).2.2.1
theorem mr_cIF (h : MR n v w) : cnt (iF w) n = cnt (iF v) n := cnt_congr (fun i hi => mr_iF h hi)
theorem mr_cIT (h : MR n v w) (hl : WL v n) {b : Nat} (hb : b < 6) : cnt (iT w (nI (5 - b))) n = cnt (iT v (nI b)) n := cnt_congr (fun i hi => mr_iT h hl hi hb)
theorem mr_cTS (h : MR n v w) (hl : WL v n) {b : Nat} (hb : b < 6) (s : Int32) : cnt (iTS w (nI (5 - b)) (nx s)) n = cnt (iTS v (nI b) s) n := cnt_congr (fun i hi => mr_iTS h hl hi hb s)
theorem mr_zCI (h : MR n v w) (hl : WL v n) {b : Nat} (hb : b < 6) : zCI w (nI (5 - b)) n = zCI v (nI b) n := by
  have e0 := mr_cTS h hl hb (nI 0)
  have e1 := mr_cTS h hl hb (nI 1)
  have e2 := mr_cTS h hl hb (nI 2)
  rw [show nx (nI 0) = nI 1 by decide] at e0
  rw [show nx (nI 1) = nI 2 by decide] at e1
  rw [show nx (nI 2) = nI 0 by decide] at e2
  rw [zCI, zCI, e0, e1, e2]
  simp only [pk_mul, nI_add]
  generalize cnt (iTS v (nI b) (nI 0)) n = A0
  generalize cnt (iTS v (nI b) (nI 1)) n = A1
  generalize cnt (iTS v (nI b) (nI 2)) n = A2
  congr 1
  rw [Nat.mul_comm A2 A0, Nat.mul_comm A2 A1]
  omega
theorem mr_wc (h : MR n v w) (hm : WM v n) (hl : WL v n) {b : Nat} (hb : b < 6) : cnt (fun c => decide (zWo w (nI c) (nI (5 - b)) = zST w (nI (5 - b)) n)) 5 = cnt (fun c => decide (zWo v (nI c) (nI b) = zST v (nI b) n)) 5 := cnt_congr (fun c hc => decide_eq_decide.mpr (by rw [mr_Wo h hc hb, mr_zST h hm hl hb, nx_inj]))
theorem mr_iCT (h : MR n v w) (hl : WL v n) {i j : Nat} (hi : i < n) (hj : j < n) : iCT w i j = iCT v i j := by
  obtain ⟨-, ⟨a, ha, ea⟩, -⟩ := hl i hi
  obtain ⟨-, ⟨b, hb, eb⟩, -⟩ := hl j hj
  have e3 : w 3 i = w 3 j ↔ v 3 i = v 3 j := by
    rw [(h.2.2.1 i hi).2.1, (h.2.2.1 j hj).2.1, ea, eb, mt5 ha, mt5 hb, nI_eq (by omega) (by omega), nI_eq (by omega) (by omega)]
    omega
  have e4 : (¬ w 4 i = w 4 j) ↔ (¬ v 4 i = v 4 j) := by rw [(h.2.2.1 i hi).2.2.1, (h.2.2.1 j hj).2.2.1, nx_inj]
  rw [iCT, iCT, mr_iF h hi, mr_iF h hj, decide_eq_decide.mpr e3, decide_eq_decide.mpr e4]
theorem mr_zps (h : MR n v w) (hl : WL v n) : zps (iCT w) n n = zps (iCT v) n n := zps_congr (fun i j hi hj => mr_iCT h hl hi hj) n (Nat.le_refl n)
theorem mr_law7 (h : MR n v w) (hm : WM v n) (hl : WL v n) {i : Nat} (hi : i < n) : cnt (fun j => zCT w (nI i) (nI j)) n = cnt (fun j => zCT v (nI i) (nI j)) n := cnt_congr (fun j hj => by rw [zCT_at (mr_WM h hm) hi hj, zCT_at hm hi hj, mr_iCT h hl hi hj])
theorem mr_iW (h : MR n v w) : zsm (iW w) n = zsm (iW v) n := zsm_congr (fun j hj => by rw [iW, iW, mr_iF h hj, (h.2.2.1 j hj).1])
theorem mr_iM (h : MR n v w) : cnt (iM w) n = cnt (iM v) n := cnt_congr (fun j hj => by rw [iM, iM, (h.2.2.1 j hj).2.2.2.1, h.2.2.2.2.1])
theorem c9_8 (hl : WL v n) : zsm (fun t => zCI v (nI t) n) 6 = nI (zps (iCT v) n n) := by rw [zsm_six hl, zpsm_all2]
theorem mr_c10 (h : MR n v w) (hl : WL v n) : cnt (fun t => decide (¬ zH w (nI t) n = -(nI 6))) 6 = cnt (fun t => decide (¬ zH v (nI t) n = -(nI 6))) 6 := cnt_rev6 _ _ (fun t ht => by
  show decide (¬ zH w (nI (5 - t)) n = -(nI 6)) = decide (¬ zH v (nI t) n = -(nI 6))
  rw [mr_zH h hl ht])
/-! votes -/
theorem mr_zJ (h : MR n v w) {c b : Nat} (hc : c < 5) (hb : b < 6) (s : Int32) : zJ w (nI c) (nI (5 - b)) (nx s) = zJ v (nI c) (nI b) s := by
  rw [zJ, zJ, mr_Wo h hc hb]
  simp only [nx_is3, nx_inj]
theorem mr_zjy (h : MR n v w) (hm : WM v n) (hl : WL v n) {c b : Nat} (hc : c < 5) (hb : b < 6) (s x : Int32) : zjy w (nI (5 - b)) (nx s) x c = zjy v (nI b) s x c := by
  rw [zjy, zjy, mr_zL h]
  cases e : zL v x with
  | false => exact mr_zJ h hc hb s
  | true =>
    obtain ⟨j, hj, rfl⟩ := zL_nI hm e
    obtain ⟨-, ⟨a, ha, ea⟩, -⟩ := hl j hj
    have es := h.2.2.1 j hj
    show zJ w (nI c) (nI (5 - b)) (nx s) - zJ w (nI c) (w 3 (nI j).toNatClampNeg) (w 4 (nI j).toNatClampNeg) = zJ v (nI c) (nI b) s - zJ v (nI c) (v 3 (nI j).toNatClampNeg) (v 4 (nI j).toNatClampNeg)
    rw [zcl hm.2 hj, es.2.1, es.2.2.1, ea, mt5 ha, mr_zJ h hc hb, mr_zJ h hc ha]
theorem mr_zVp (h : MR n v w) (hm : WM v n) (hl : WL v n) {c b : Nat} (hc : c < 5) (hb : b < 6) (s x : Int32) : zVp w (nI (5 - b)) (nx s) x c = zVp v (nI b) s x c := by rw [zVp, zVp, mr_zjy h hm hl hc hb]
theorem mr_zVC (h : MR n v w) (hm : WM v n) (hl : WL v n) {b : Nat} (hb : b < 6) (s x : Int32) : zVC w (nI (5 - b)) (nx s) x = zVC v (nI b) s x := by
  rw [zVC, zVC, cnt_congr (fun c hc => mr_zVp h hm hl hc hb s x)]
theorem mr_zVT (h : MR n v w) (hm : WM v n) (hl : WL v n) {b : Nat} (hb : b < 6) (s x : Int32) : zVT w (nI (5 - b)) (nx s) x = zVT v (nI b) s x := by
  rw [zVT, zVT, zor_congr (fun c hc => mr_zVp h hm hl hc hb s x)]
/-! reasons -/
theorem mr_AN (h : MR n v w) (hl : WL v n) {b : Nat} (hb : b < 6) (l s x : Int32) : zAN w l (nI (5 - b)) (nx s) x n = zAN v l (nI b) s x n := zany_congr (fun j hj => by
  rw [pAN, pAN, mr_iF h hj, mr_iLK h hl hj hb])
theorem mr_RL (h : MR n v w) (hl : WL v n) {b : Nat} (hb : b < 6) (l s : Int32) : zRL w l (nI (5 - b)) (nx s) n = zRL v l (nI b) s n := zany_congr (fun j hj => by
  rw [pRL, pRL, mr_iF h hj, mr_iLK h hl hj hb, h.1 2 (by omega), h.2.2.2.2.1, (h.2.2.1 j hj).2.2.2.2.1])
theorem mr_pHL (h : MR n v w) (l : Int32) {j : Nat} (hj : j < n) : pHL w l j = pHL v l j := by rw [pHL, pHL, mr_iF h hj, (h.2.2.1 j hj).1]
theorem mr_HL (h : MR n v w) (l : Int32) : zHL w l n = zHL v l n := zany_congr (fun j hj => mr_pHL h l hj)
theorem mr_LK (h : MR n v w) (hm : WM v n) (hl : WL v n) {b : Nat} (hb : b < 6) (x l s : Int32) : zLK w x l (nI (5 - b)) (nx s) = zLK v x l (nI b) s := by
  rw [zLK, zLK, mr_zL h]
  cases e : zL v x with
  | false => rfl
  | true =>
    obtain ⟨j, hj, rfl⟩ := zL_nI hm e
    rw [zcl hm.2 hj]
    exact mr_iLK h hl hj hb l s
theorem mr_FL (h : MR n v w) (hm : WM v n) (x l : Int32) : (zF w x && decide (w 2 x.toNatClampNeg = l)) = (zF v x && decide (v 2 x.toNatClampNeg = l)) := by
  rw [mr_zF h hm]
  cases e : zF v x with
  | false => rfl
  | true =>
    obtain ⟨j, hj, rfl⟩ := zL_nI hm (zF_L e)
    rw [zcl hm.2 hj, (h.2.2.1 j hj).1]
theorem mr_R7 (h : MR n v w) (hm : WM v n) (hl : WL v n) {b : Nat} (hb : b < 6) (s x : Int32) : zR7 w (nI (5 - b)) (nx s) x = zR7 v (nI b) s x := by
  rw [zR7, zR7, mr_zVC h hm hl hb, h.1 0 (by omega)]
theorem mr_RA (h : MR n v w) (hm : WM v n) (hl : WL v n) {b : Nat} (hb : b < 6) (l s x : Int32) : zRA w l (nI (5 - b)) (nx s) x n = zRA v l (nI b) s x n := by
  rw [zRA, zRA, mr_AN h hl hb, mr_LK h hm hl hb, mr_RL h hl hb, mr_zL h, mr_FL h hm, mr_HL h, h.1 1 (by omega), mr_cIF h, mr_R7 h hm hl hb]
theorem mr_br2 (h : MR n v w) (hm : WM v n) (hl : WL v n) {b : Nat} (hb : b < 6) (l s : Int32) : ∀ k, k ≤ n → zbr2 w l (nI (5 - b)) (nx s) k = zbr2 v l (nI b) s k
  | 0, _ => rfl
  | k + 1, hk => by
    rw [zbr2, zbr2, mr_br2 h hm hl hb l s k (by omega), mr_pHL h l (show k < n by omega), mr_zVC h hm hl hb]
theorem mr_BR (h : MR n v w) (hm : WM v n) (hl : WL v n) {b : Nat} (hb : b < 6) (l s : Int32) : zBR w l (nI (5 - b)) (nx s) n = zBR v l (nI b) s n := by rw [zBR, zBR, mr_br2 h hm hl hb l s n (Nat.le_refl n)]
theorem mr_VI (h : MR n v w) (hm : WM v n) (hl : WL v n) {b : Nat} (hb : b < 6) (l s : Int32) : zVI w l (nI (5 - b)) (nx s) n = zVI v l (nI b) s n := by
  rw [zVI, zVI, mr_BR h hm hl hb, mr_RA h hm hl hb, mr_zVC h hm hl hb]
theorem zbt_n {a b j : Nat} (h1 : a ≤ j) (h2 : j < b) (hb : b < 2 ^ 31) : zbt (nI a) (nI b) (nI j) = true := zbt_t (nI_nlt h1 (by omega)) (nI_ge h2 hb)
theorem mr_EB (h : MR n v w) {b c : Nat} (hb : b < 6) (hc : c < 3) (l x : Int32) : zEB w l (nI (5 - b)) (nx (nI c)) x = zEB v l (nI b) (nI c) x := by
  rw [zEB, zEB, mr_zL h, nx_at hc, zbt_n (Nat.zero_le _) (show 5 - b < 6 by omega) (by decide), zbt_n (Nat.zero_le _) hb (by decide), zbt_n (Nat.zero_le _) (show (c + 1) % 3 < 3 by omega) (by decide), zbt_n (Nat.zero_le _) hc (by decide)]
theorem mr_Full (h : MR n v w) : zFull w = zFull v := by rw [zFull, zFull, h.2.2.2.1]
theorem mr_Why (h : MR n v w) (hm : WM v n) (hl : WL v n) {b c : Nat} (hb : b < 6) (hc : c < 3) (l x : Int32) : zWhy w l (nI (5 - b)) (nx (nI c)) x n = zWhy v l (nI b) (nI c) x n := by
  rw [zWhy, zWhy, mr_EB h hb hc, mr_Full h, mr_RA h hm hl hb]
theorem mr_Votes (h : MR n v w) (hm : WM v n) (hl : WL v n) {b c : Nat} (hb : b < 6) (hc : c < 3) (l x : Int32) : zVotes w l (nI (5 - b)) (nx (nI c)) x = zVotes v l (nI b) (nI c) x := by
  rw [zVotes, zVotes, mr_EB h hb hc, mr_zVT h hm hl hb]
theorem mr_BestR (h : MR n v w) (hm : WM v n) (hl : WL v n) {b c : Nat} (hb : b < 6) (hc : c < 3) (l : Int32) : zBestR w l (nI (5 - b)) (nx (nI c)) n = zBestR v l (nI b) (nI c) n := by
  rw [zBestR, zBestR, mr_EB h hb hc, mr_BR h hm hl hb]
theorem mr_LB (h : MR n v w) (hm : WM v n) (hl : WL v n) {b : Nat} (hb : b < 6) (s : Int32) : ∀ k, zLB w (nI (5 - b)) (nx s) n k = zLB v (nI b) s n k
  | 0 => rfl
  | k + 1 => by rw [zLB, zLB, mr_LB h hm hl hb s k, mr_VI h hm hl hb]
theorem mr_Long (h : MR n v w) (hm : WM v n) (hl : WL v n) {b c : Nat} (hb : b < 6) (hc : c < 3) : zLong w (nI (5 - b)) (nx (nI c)) n = zLong v (nI b) (nI c) n := by
  rw [zLong, zLong, mr_EB h hb hc, mr_Full h, mr_LB h hm hl hb]
theorem mr_Pass (h : MR n v w) (hm : WM v n) (hl : WL v n) {b : Nat} (hb : b < 6) (l s : Int32) : zPass w l (nI (5 - b)) (nx s) n = zPass v l (nI b) s n := by
  rw [zPass, zPass, mr_Full h, mr_BR h hm hl hb, mr_RA h hm hl hb]
end MIR
