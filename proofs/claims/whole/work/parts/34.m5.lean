/-! RepealedLawsModel: the history, changes -/
def zsh (f : Nat → Int32) (i : Nat) : Nat → Int32 := fun p => if p < i then f (p + 596) else f p
def zcp (f g : Nat → Int32) (b i : Nat) : Nat → Int32 := fun p => if b ≤ p ∧ p < b + i then g (p - b) else f p
theorem zsh_0 (f : Nat → Int32) : zsh f 0 = f := by
  funext p
  simp [zsh]
theorem zcp_0 (f g : Nat → Int32) (b : Nat) : zcp f g b 0 = f := by
  funext p
  rw [zcp, if_neg (by omega)]
theorem zsh_s (f : Nat → Int32) (i : Nat) : upd (zsh f i) i (zsh f i (i + 596)) = zsh f (i + 1) := by
  funext p
  by_cases e : p = i
  · subst e
    rw [upd_at, zsh, if_neg (by omega), zsh, if_pos (by omega)]
  · rw [upd_ne e, zsh, zsh]
    by_cases c : p < i
    · rw [if_pos c, if_pos (by omega)]
    · rw [if_neg c, if_neg (by omega)]
theorem zcp_s (f g : Nat → Int32) (b i : Nat) : upd (zcp f g b i) (b + i) (g i) = zcp f g b (i + 1) := by
  funext p
  by_cases e : p = b + i
  · subst e
    rw [upd_at, zcp, if_pos (by omega), Nat.add_sub_cancel_left]
  · rw [upd_ne e, zcp, zcp]
    by_cases c : b ≤ p ∧ p < b + i
    · rw [if_pos c, if_pos (by omega)]
    · rw [if_neg c, if_neg (by omega)]
def zhk (k : Nat) : Nat := if k < 6 then k else 5
def zhs (u : CV) (k : Nat) : Nat → Int32 := zcp (if k < 6 then u 1 else zsh (u 1) 2980) (u 0) (596 * zhk k) 596
/-- the state comes into the history -/
def zcc (u : CV) (k : Nat) : CV := vup (vup u 1 (zhs u k)) 2 (upd (u 2) 0 (nI (zhk k + 1)))
set_option maxHeartbeats 2000000 in
set_option maxRecDepth 20000 in
theorem mX4_changes (u : CV) (k : Nat) (hk : k ≤ 6) (h2 : u 2 0 = nI k) : ZM yX4_changes cX4_changes 2 none 0 0 [.ref 0] (hM u) none (hM (zcc u k)) := by
  refine zm_of 4 qX4_changes rfl rfl kX4_changes rfl (Nat.le_of_ble_eq_true rfl) (fun C hC0 => ?_)
  have at50 : ∀ (f : Nat → Int32) (j : Nat) (o : Option Value), j < 6 → hM (vup (vup u 1 (zcp f (u 0) (596 * j) 596)) 2 (upd (u 2) 0 (nI (j + 1)))) = hM (zcc u k) → C 50 [some (.ref 0), o] [] (hM (vup (vup u 1 f) 2 (upd (u 2) 0 (nI j)))) := by
    intro f j o hj hq
    rw [show hM (vup (vup u 1 f) 2 (upd (u 2) 0 (nI j))) = hM (vup (vup u 1 (zcp f (u 0) (596 * j) 0)) 2 (upd (u 2) 0 (nI j))) by rw [zcp_0]]
    refine zgo hC0 27 2 rfl ?_
    refine zloop 596 (fun i => ∀ y, y = nI i → C 52 [some (.ref 0), some (.int y)] [] (hM (vup (vup u 1 (zcp f (u 0) (596 * j) i)) 2 (upd (u 2) 0 (nI j))))) ?_ ?_ _ rfl
    · rintro y rfl
      refine zgo hC0 29 3 rfl ?_
      refine And.intro (fun _ => ?_) (fun c => absurd (nI_le (Nat.le_refl 596) (by decide)) c)
      refine zgo hC0 47 7 rfl ?_
      refine ⟨rfl, ?_⟩
      show hM (vup (vup u 1 (zcp f (u 0) (596 * j) 596)) 2 (upd (u 2) 0 (nI j + nI 1))) = _
      rw [nI_add]
      exact hq
    · rintro i hi ih y rfl
      refine zgo hC0 29 3 rfl ?_
      refine And.intro (fun c => absurd c (nI_ge hi (by decide))) (fun _ => ?_)
      refine zgo hC0 32 15 rfl ?_
      refine And.intro (vp_in_nI (N := 596) hi (by decide)) (And.intro ?_ ?_)
      · show vp_in (nI 596 * nI j + nI i) 3576
        rw [pk_mul, nI_add]
        exact vp_in_nI (by omega) (by decide)
      show C 52 [some (.ref 0), some (.int (nI i + nI 1))] [] (hM (vup (vup u 1 (upd (zcp f (u 0) (596 * j) i) (nI 596 * nI j + nI i).toNatClampNeg (u 0 (nI i).toNatClampNeg))) 2 (upd (u 2) 0 (nI j))))
      rw [pk_mul, nI_add (596 * j) i, nI_clamp (show 596 * j + i < 2 ^ 31 by omega), nI_clamp (show i < 2 ^ 31 by omega), zcp_s]
      exact ih _ (nI_add i 1)
  refine zgo hC0 0 4 rfl ?_
  refine And.intro (fun (c : ¬ u 2 0 = nI 6) => ?_) (fun (c : u 2 0 = nI 6) => ?_)
  · have hk6 : k < 6 := by
      rcases Nat.lt_or_ge k 6 with q | q
      · exact q
      · exact absurd (by rw [h2, show k = 6 by omega]) c
    have e : hM u = hM (vup (vup u 1 (u 1)) 2 (upd (u 2) 0 (nI k))) := by
      rw [← h2]
      rfl
    show C 50 _ [] (hM u)
    rw [e]
    exact at50 (u 1) k _ hk6 (by rw [zcc, zhs, zhk, if_pos hk6, if_pos hk6])
  · have hk6 : ¬ k < 6 := fun q => absurd (h2.symm.trans c) (by rw [nI_eq (by omega) (by decide)]; omega)
    have e : hM u = hM (vup u 1 (zsh (u 1) 0)) := by rw [zsh_0]; rfl
    rw [e]
    refine zgo hC0 4 2 rfl ?_
    refine zloop 2980 (fun i => ∀ y, y = nI i → C 11 [some (.ref 0), some (.int y)] [] (hM (vup u 1 (zsh (u 1) i)))) ?_ ?_ _ rfl
    · rintro y rfl
      refine zgo hC0 6 3 rfl ?_
      refine And.intro (fun _ => ?_) (fun c => absurd (nI_le (Nat.le_refl 2980) (by decide)) c)
      refine zgo hC0 21 6 rfl ?_
      show C 50 _ [] (hM (vup (vup u 1 (zsh (u 1) 2980)) 2 (upd (u 2) 0 (u 2 0 - nI 1))))
      rw [c, show nI 6 - nI 1 = nI 5 from rfl]
      exact at50 (zsh (u 1) 2980) 5 _ (by decide) (by rw [zcc, zhs, zhk, if_neg hk6, if_neg hk6])
    · rintro i hi ih y rfl
      refine zgo hC0 6 3 rfl ?_
      refine And.intro (fun c => absurd c (nI_ge hi (by decide))) (fun _ => ?_)
      refine zgo hC0 9 12 rfl ?_
      refine And.intro ?_ (And.intro ?_ ?_)
      · show vp_in (nI i + nI 596) 3576
        rw [nI_add]
        exact vp_in_nI (by omega) (by decide)
      · exact vp_in_nI (N := 3576) (by omega) (by decide)
      show C 11 [some (.ref 0), some (.int (nI i + nI 1))] [] (hM (vup u 1 (upd (zsh (u 1) i) (nI i).toNatClampNeg (zsh (u 1) i (nI i + nI 596).toNatClampNeg))))
      rw [nI_add i 596, nI_clamp (show i < 2 ^ 31 by omega), nI_clamp (show i + 596 < 2 ^ 31 by omega), zsh_s]
      exact ih _ (nI_add i 1)
